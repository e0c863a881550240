/-! the class: leastLaw, spared, last -/
/-- the least of some numbers, as the class finds it -/
def c_min (w : Nat → Int32) : Nat → Int32 × Int32
  | 0 => (nI 0, 2147483647)
  | k + 1 => if w k < (c_min w k).2 then (nI k, w k) else c_min w k
theorem c_min_eq (w : Nat → Int32) : ∀ k, k < 1000 → c_min w (k + 1) = s_min w (k + 1) ∧ ∃ j, j ≤ k ∧ (s_min w (k + 1)).1 = nI j := by
  intro k
  induction k with
  | zero =>
    intro _
    have e : s_min w (0 + 1) = (nI 0, w 0) := by
      rw [s_min_s]
      have h0 : (s_min w 0).1 < 0 := by show (-1 : Int32) < 0; decide
      rw [if_pos h0, if_pos rfl]
    rw [e]
    refine ⟨?_, 0, Nat.le_refl _, rfl⟩
    rw [c_min]
    by_cases h : w 0 < (c_min w 0).2
    · rw [if_pos h]
    · rw [if_neg h]
      show (nI 0, (2147483647 : Int32)) = (nI 0, w 0)
      have h' : ¬ w 0 < 2147483647 := h
      rw [Int32.lt_iff_toInt_lt] at h'
      have h2 := Int32.toInt_lt (w 0)
      rw [show (2147483647 : Int32).toInt = 2147483647 by decide] at h'
      have : w 0 = 2147483647 := by rw [← Int32.toInt_inj, show (2147483647 : Int32).toInt = 2147483647 by decide]; omega
      rw [this]
  | succ k ih =>
    intro hk
    obtain ⟨e, j, hj, ej⟩ := ih (by omega)
    rw [c_min, e, s_min_s w (k + 1), ej, if_neg (nI_pos (by omega))]
    by_cases h : (s_min w (k + 1)).2 ≤ w (k + 1)
    · rw [if_pos h, if_neg (i_nlt2 h), if_neg (fun h2 => by have := (nI_eq (by omega) (by omega)).mp h2; omega)]
      exact ⟨by rw [← ej], j, by omega, rfl⟩
    · rw [if_neg h, if_pos (i_lt2 h), if_pos rfl]
      exact ⟨rfl, k + 1, Nat.le_refl _, rfl⟩
set_option maxRecDepth 100000 in
set_option maxHeartbeats 4000000 in
theorem c6_leastLaw (l : Launch) (E : Ex) (S : Sx) (im : Mem) (B : Nat) (hC : CL S B) (X : Nat) (hX : B + 107 ≤ X) (f : Nat → Int32) (n n7 : Nat) (hst : ST S im (B + 1) X f n n7) (x w : Int32) : Mt l E yX6_leastLaw cX6_leastLaw 6 (some .int) 7 0 0 [.ref B, .int x, .int w] S im (pI (pC S im B X n7 (r_leastLaw f n n7 x w) (f))) := by
  refine Mt.of (by decide +kernel) rfl rfl (Nat.le_of_ble_eq_true rfl) ?_
  intro κ hκ C ρ
  subst hκ
  show V E κ 6 0 0 0 [some (.ref B), some (.int x), some (.int w), none, none, none] [] S im
  have hn10 := hst.1.1.1
  have h14 := hst.2.1.1.1
  have hr := hst.1
  have hT := hst.2.1
  have hg := hst.2.2
  have hX1 : B + 1 + 15 ≤ X := by omega
  refine z_iload_n (pc := 0) C dX6_leastLaw_0 rfl ?_
  refine z_iconstN (pc := 1) C 1 dX6_leastLaw_1 ?_
  refine z_bipushN (pc := 2) C 60 (by decide) dX6_leastLaw_2 ?_
  refine kX6_56 (pc := 4) C dX6_leastLaw_4 (c6_within κ.2.1 E S im (x) (nI 1) (nI 60)) (by decide) (Nat.le_of_ble_eq_true rfl) (Nat.le_refl _) (Nat.le_refl _) (fun v_4 S_4 im_4 h_4 => ?_)
  rcases h_4 with ⟨hb_4, rfl, rfl, rfl⟩ | ⟨hb_4, rfl, rfl, rfl⟩
  · 
    obtain ⟨x0, hx00, hx0, rfl⟩ := (rng (by decide) (by decide)).mp hb_4
    have hcx : (nI x0).toNatClampNeg = x0 := nI_clamp (by omega)
    refine z_if_eqF (pc := 7) C 19 dX6_leastLaw_7 (by decide) (by decide) ?_
    refine z_iload_n (pc := 10) C dX6_leastLaw_10 rfl ?_
    refine z_iconstN (pc := 11) C 0 dX6_leastLaw_11 ?_
    refine z_iconstN (pc := 12) C 1 dX6_leastLaw_12 ?_
    refine kX6_56 (pc := 13) C dX6_leastLaw_13 (c6_within κ.2.1 E S im (w) (nI 0) (nI 1)) (by decide) (Nat.le_of_ble_eq_true rfl) (Nat.le_refl _) (Nat.le_refl _) (fun v_13 S_13 im_13 h_13 => ?_)
    rcases h_13 with ⟨hb_13, rfl, rfl, rfl⟩ | ⟨hb_13, rfl, rfl, rfl⟩
    · 
      obtain ⟨W, hW⟩ : ∃ W, W = w_law f n n7 x0 := ⟨_, rfl⟩
      have loop : ∀ (r i : Nat) (S' : Sx) (im' : Mem), i + r = 3 → SX (B + 31) S S' → ST S' im' (B + 1) X f n n7 → frC B X im im' → V E κ 6 0 0 31 [some (.ref B), some (.int (nI x0)), some (.int w), some (.int ((c_min W i).1)), some (.int ((c_min W i).2)), some (.int (nI i))] [] S' im' := by
        intro r
        induction r with
        | zero =>
          intro i S' im' hi hsx hn' hfr
          have hC := CL_X hC hsx (Or.inr (Or.inr rfl))
          refine z_iload (pc := 31) C dX6_leastLaw_31 rfl ?_
          refine z_iconstN (pc := 33) C 2 dX6_leastLaw_33 ?_
          refine z_icmp_gtT (pc := 34) C 96 dX6_leastLaw_34 (by decide) (nI_lt (by omega) (by omega)) ?_
          refine z_iload_n (pc := 96) C dX6_leastLaw_96 rfl ?_
          refine z_if_ne (pc := 97) C 104 dX6_leastLaw_97 (by decide) (fun c_97 => ?_) (fun c_97 => ?_)
          · 
            refine z_iload (pc := 104) C dX6_leastLaw_104 rfl ?_
            exact z_iret (pc := 106) C ρ dX6_leastLaw_106 (⟨_, rfl, by rw [r_leastLaw, if_pos hb_4, if_pos hb_13, if_neg c_97, hcx, ← hW, show i = 2 + 1 by omega, (c_min_eq W 2 (by decide)).1], hsx, ⟨n, hn'⟩, hfr⟩)
          · 
            refine z_iload_n (pc := 100) C dX6_leastLaw_100 rfl ?_
            refine z_goto (pc := 101) C 106 dX6_leastLaw_101 (by decide) ?_
            exact z_iret (pc := 106) C ρ dX6_leastLaw_106 (⟨_, rfl, by rw [r_leastLaw, if_pos hb_4, if_pos hb_13, if_pos c_97, hcx, ← hW, show i = 2 + 1 by omega, (c_min_eq W 2 (by decide)).1], hsx, ⟨n, hn'⟩, hfr⟩)
        | succ r ih =>
          intro i S' im' hi hsx hn' hfr
          have hC := CL_X hC hsx (Or.inr (Or.inr rfl))
          refine z_iload (pc := 31) C dX6_leastLaw_31 rfl ?_
          refine z_iconstN (pc := 33) C 2 dX6_leastLaw_33 ?_
          refine z_icmp_gtF (pc := 34) C 96 dX6_leastLaw_34 (by decide) (nI_nlt (by omega) (by omega)) ?_
          refine z_aload_n (pc := 37) C dX6_leastLaw_37 rfl ?_
          refine gX6_19 (pc := 38) C dX6_leastLaw_38 (cl_K hC) (cl_r2 hC) ?_
          refine z_aload_n (pc := 41) C dX6_leastLaw_41 rfl ?_
          refine gX6_10 (pc := 42) C dX6_leastLaw_42 (cl_K hC) (cl_r0 hC) ?_
          refine kX6_163 (pc := 45) C dX6_leastLaw_45 (c3_becomes κ.2.1 E S' im' (B + 31) (cl_s3 hC) (B + 1) (cl_s1 hC) (by omega) X f n n7 hn' (by omega) (by omega)) (sl_K (cl_s3 hC)) (by decide) (Nat.le_of_ble_eq_true rfl) (Nat.le_refl _) (Nat.le_refl _) (fun S_45 im_45 h_45 => ?_)
          obtain ⟨sx_45, ht_45, -, fq_45⟩ := h_45
          have hC := CL_X hC sx_45 (Or.inr (Or.inr rfl))
          have hn_45 : ST S_45 im_45 (B + 1) X f n n7 := ST_fr (ST_X hn' sx_45 (by omega) (by omega)) (fun a h1 h2 _ => fq_45 a (by omega)) (fun a h1 _ => fq_45 a (by omega))
          have fr_45 : frC B X im' im_45 := fun a h1 h2 h3 => fq_45 a (by omega)
          refine z_aload_n (pc := 48) C dX6_leastLaw_48 rfl ?_
          refine gX6_19 (pc := 49) C dX6_leastLaw_49 (cl_K hC) (cl_r2 hC) ?_
          refine z_iload (pc := 52) C dX6_leastLaw_52 rfl ?_
          refine pX6_129 (pc := 54) C dX6_leastLaw_54 (sl_K (cl_s3 hC)) ?_
          have ht54 : ST S_45 (up2 im_45 (B + 31) 3 (nI i)) (B + 31) X (upd f 3 (nI i)) n n7 := ST_up ht_45 (SR_h3 ht_45.1) (sam.upd (by decide) (by decide) (by decide)) (RG_hd ht_45.2.2 (upd_n _ _ (by decide)) (upd_n _ _ (by decide)) (fun j hj _ => upd_n _ _ (by omega))) (by omega) (by omega) (by omega) (by omega)
          have hn54 : ST S_45 (up2 im_45 (B + 31) 3 (nI i)) (B + 1) X f n n7 := ST_fr hn_45 (fun a h1 h2 _ => up2_n _ _ _ (by omega)) (fun a h1 _ => up2_n _ _ _ (by omega))
          refine z_aload_n (pc := 57) C dX6_leastLaw_57 rfl ?_
          refine gX6_19 (pc := 58) C dX6_leastLaw_58 (cl_K hC) (cl_r2 hC) ?_
          refine z_iload_n (pc := 61) C dX6_leastLaw_61 rfl ?_
          refine z_iconst (v := -1) (pc := 62) C dX6_leastLaw_62 (by decide) ?_
          refine kX6_150 (pc := 63) C dX6_leastLaw_63 (c3_passNights κ.2.1 E S_45 (up2 im_45 (B + 31) 3 (nI i)) (B + 31) (cl_s3 hC) X (upd f 3 (nI i)) n n7 ht54 (by omega) (x0) (by omega) (-1)) (sl_K (cl_s3 hC)) (by decide) (Nat.le_of_ble_eq_true rfl) (Nat.le_refl _) (Nat.le_refl _) (fun S_63 im_63 h_63 => ?_)
          obtain ⟨rfl, ht_63, -, fq_63⟩ := h_63
          have hn_63 : ST S_45 im_63 (B + 1) X f n n7 := ST_fr hn54 (fun a h1 h2 _ => fq_63 a (by omega) (by omega)) (fun a h1 h2 => fq_63 a (by omega) (Or.inr h2))
          have hnE := hn_63
          have hfE : frC B X im im_63 := hfr.tr (fr_45.tr ((frC.rf.up (by omega)).tr fq_63.C3))
          refine z_aload_n (pc := 66) C dX6_leastLaw_66 rfl ?_
          refine gX6_19 (pc := 67) C dX6_leastLaw_67 (cl_K hC) (cl_r2 hC) ?_
          refine gX6_144 (pc := 70) C dX6_leastLaw_70 (sl_K (cl_s3 hC)) ?_
          refine z_eqi (y := W i) (by rw [hW]; exact ht_63.1.2.1.2.2.2.2.2.1) ?_
          refine z_iload (pc := 73) C dX6_leastLaw_73 rfl ?_
          refine z_icmp_ge (pc := 75) C 90 dX6_leastLaw_75 (by decide) (fun c_75 => ?_) (fun c_75 => ?_)
          · 
            refine z_iincN (pc := 90) C 1 dX6_leastLaw_90 rfl (by decide) rfl ?_
            refine z_goto (pc := 93) C 31 dX6_leastLaw_93 (by decide) ?_
            have := ih (i + 1) _ _ (by omega) (hsx.tr sx_45) hnE hfE
            rw [c_min, if_neg (i_nlt2 c_75)] at this
            exact this
          · 
            refine z_iload (pc := 78) C dX6_leastLaw_78 rfl ?_
            refine z_istore_n (pc := 80) C dX6_leastLaw_80 (by decide) rfl ?_
            refine z_aload_n (pc := 81) C dX6_leastLaw_81 rfl ?_
            refine gX6_19 (pc := 82) C dX6_leastLaw_82 (cl_K hC) (cl_r2 hC) ?_
            refine gX6_144 (pc := 85) C dX6_leastLaw_85 (sl_K (cl_s3 hC)) ?_
            refine z_eqi (y := W i) (by rw [hW]; exact ht_63.1.2.1.2.2.2.2.2.1) ?_
            refine z_istore (pc := 88) C dX6_leastLaw_88 (by decide) rfl ?_
            refine z_iincN (pc := 90) C 1 dX6_leastLaw_90 rfl (by decide) rfl ?_
            refine z_goto (pc := 93) C 31 dX6_leastLaw_93 (by decide) ?_
            have := ih (i + 1) _ _ (by omega) (hsx.tr sx_45) hnE hfE
            rw [c_min, if_pos (i_lt2 c_75)] at this
            exact this
      refine z_if_neT (pc := 16) C 22 dX6_leastLaw_16 (by decide) (by decide) ?_
      refine z_iconstN (pc := 22) C 0 dX6_leastLaw_22 ?_
      refine z_istore_n (pc := 23) C dX6_leastLaw_23 (by decide) rfl ?_
      refine z_ldc (pc := 24) C dX6_leastLaw_24 wk_X6_181 ?_
      refine z_istore (pc := 26) C dX6_leastLaw_26 (by decide) rfl ?_
      refine z_iconstN (pc := 28) C 0 dX6_leastLaw_28 ?_
      refine z_istore (pc := 29) C dX6_leastLaw_29 (by decide) rfl ?_
      exact loop 3 0 S im (by omega) SX.rf hst frC.rf
    · 
      refine z_if_neF (pc := 16) C 22 dX6_leastLaw_16 (by decide) (by decide) ?_
      refine z_ldc (pc := 19) C dX6_leastLaw_19 wk_X6_60 ?_
      exact z_iret (pc := 21) C ρ dX6_leastLaw_21 (⟨_, rfl, by simp only [r_leastLaw, if_pos hb_4, if_neg hb_13], SX.rf, ⟨n, hst⟩, frC.rf⟩)
  · 
    refine z_if_eqT (pc := 7) C 19 dX6_leastLaw_7 (by decide) (by decide) ?_
    refine z_ldc (pc := 19) C dX6_leastLaw_19 wk_X6_60 ?_
    exact z_iret (pc := 21) C ρ dX6_leastLaw_21 (⟨_, rfl, by simp only [r_leastLaw, if_neg hb_4], SX.rf, ⟨n, hst⟩, frC.rf⟩)
set_option maxRecDepth 100000 in
set_option maxHeartbeats 4000000 in
theorem c6_spared (l : Launch) (E : Ex) (S : Sx) (im : Mem) (B : Nat) (hC : CL S B) (X : Nat) (hX : B + 107 ≤ X) (f : Nat → Int32) (n n7 : Nat) (hst : ST S im (B + 1) X f n n7) (x w : Int32) : Mt l E yX6_spared cX6_spared 6 (some .int) 7 0 0 [.ref B, .int x, .int w] S im (pI (pC S im B X n7 (r_spared f n n7 x w) (f))) := by
  refine Mt.of (by decide +kernel) rfl rfl (Nat.le_of_ble_eq_true rfl) ?_
  intro κ hκ C ρ
  subst hκ
  show V E κ 6 0 0 0 [some (.ref B), some (.int x), some (.int w), none, none, none] [] S im
  have hn10 := hst.1.1.1
  have h14 := hst.2.1.1.1
  have hr := hst.1
  have hT := hst.2.1
  have hg := hst.2.2
  have hX1 : B + 1 + 15 ≤ X := by omega
  refine z_iload_n (pc := 0) C dX6_spared_0 rfl ?_
  refine z_iconstN (pc := 1) C 1 dX6_spared_1 ?_
  refine z_bipushN (pc := 2) C 60 (by decide) dX6_spared_2 ?_
  refine kX6_56 (pc := 4) C dX6_spared_4 (c6_within κ.2.1 E S im (x) (nI 1) (nI 60)) (by decide) (Nat.le_of_ble_eq_true rfl) (Nat.le_refl _) (Nat.le_refl _) (fun v_4 S_4 im_4 h_4 => ?_)
  rcases h_4 with ⟨hb_4, rfl, rfl, rfl⟩ | ⟨hb_4, rfl, rfl, rfl⟩
  · 
    obtain ⟨x0, hx00, hx0, rfl⟩ := (rng (by decide) (by decide)).mp hb_4
    have hcx : (nI x0).toNatClampNeg = x0 := nI_clamp (by omega)
    refine z_if_eqF (pc := 7) C 19 dX6_spared_7 (by decide) (by decide) ?_
    refine z_iload_n (pc := 10) C dX6_spared_10 rfl ?_
    refine z_iconstN (pc := 11) C 0 dX6_spared_11 ?_
    refine z_iconstN (pc := 12) C 1 dX6_spared_12 ?_
    refine kX6_56 (pc := 13) C dX6_spared_13 (c6_within κ.2.1 E S im (w) (nI 0) (nI 1)) (by decide) (Nat.le_of_ble_eq_true rfl) (Nat.le_refl _) (Nat.le_refl _) (fun v_13 S_13 im_13 h_13 => ?_)
    rcases h_13 with ⟨hb_13, rfl, rfl, rfl⟩ | ⟨hb_13, rfl, rfl, rfl⟩
    · 
      refine z_if_neT (pc := 16) C 22 dX6_spared_16 (by decide) (by decide) ?_
      refine z_aload_n (pc := 22) C dX6_spared_22 rfl ?_
      refine gX6_10 (pc := 23) C dX6_spared_23 (cl_K hC) (cl_r0 hC) ?_
      refine gX6_61 (pc := 26) C dX6_spared_26 (sl_K (cl_s1 hC)) ?_
      refine z_eqi (y := nI n) (hr.1.2.2) ?_
      refine z_if_neN (pc := 29) C 35 dX6_spared_29 (by decide) (by omega) (fun c_29 => ?_) (fun c_29 => ?_)
      · 
        obtain ⟨W, hW⟩ : ∃ W, W = w_spared f n n7 x0 := ⟨_, rfl⟩
        have loop : ∀ (r i : Nat) (S' : Sx) (im' : Mem), i + r = n → SX (B + 31) S S' → ST S' im' (B + 1) X f n n7 → frC B X im im' → V E κ 6 0 0 44 [some (.ref B), some (.int (nI x0)), some (.int w), some (.int ((c_min W i).1)), some (.int ((c_min W i).2)), some (.int (nI i))] [] S' im' := by
          intro r
          induction r with
          | zero =>
            intro i S' im' hi hsx hn' hfr
            have hC := CL_X hC hsx (Or.inr (Or.inr rfl))
            refine z_iload (pc := 44) C dX6_spared_44 rfl ?_
            refine z_aload_n (pc := 46) C dX6_spared_46 rfl ?_
            refine gX6_10 (pc := 47) C dX6_spared_47 (cl_K hC) (cl_r0 hC) ?_
            refine gX6_61 (pc := 50) C dX6_spared_50 (sl_K (cl_s1 hC)) ?_
            refine z_eqi (y := nI n) (hn'.1.1.2.2) ?_
            refine z_icmp_geT (pc := 53) C 107 dX6_spared_53 (by decide) (nI_le (by omega) (by omega)) ?_
            refine z_iload_n (pc := 107) C dX6_spared_107 rfl ?_
            refine z_if_ne (pc := 108) C 115 dX6_spared_108 (by decide) (fun c_108 => ?_) (fun c_108 => ?_)
            · 
              refine z_iload (pc := 115) C dX6_spared_115 rfl ?_
              obtain ⟨m0, rfl⟩ : ∃ m0, i = m0 + 1 := ⟨i - 1, by omega⟩
              obtain ⟨e1, j, hj, ej⟩ := c_min_eq W m0 (by omega)
              exact z_iret (pc := 117) C ρ dX6_spared_117 (⟨_, rfl, by rw [r_spared, if_pos hb_4, if_pos hb_13, hcx, ← hW, show n = m0 + 1 by omega, if_pos (by rw [ej]; exact nI_pos' (by omega)), if_neg c_108, e1], hsx, ⟨n, hn'⟩, hfr⟩)
            · 
              refine z_iload_n (pc := 111) C dX6_spared_111 rfl ?_
              refine z_goto (pc := 112) C 117 dX6_spared_112 (by decide) ?_
              obtain ⟨m0, rfl⟩ : ∃ m0, i = m0 + 1 := ⟨i - 1, by omega⟩
              obtain ⟨e1, j, hj, ej⟩ := c_min_eq W m0 (by omega)
              exact z_iret (pc := 117) C ρ dX6_spared_117 (⟨_, rfl, by rw [r_spared, if_pos hb_4, if_pos hb_13, hcx, ← hW, show n = m0 + 1 by omega, if_pos (by rw [ej]; exact nI_pos' (by omega)), if_pos c_108, e1], hsx, ⟨n, hn'⟩, hfr⟩)
          | succ r ih =>
            intro i S' im' hi hsx hn' hfr
            have hC := CL_X hC hsx (Or.inr (Or.inr rfl))
            refine z_iload (pc := 44) C dX6_spared_44 rfl ?_
            refine z_aload_n (pc := 46) C dX6_spared_46 rfl ?_
            refine gX6_10 (pc := 47) C dX6_spared_47 (cl_K hC) (cl_r0 hC) ?_
            refine gX6_61 (pc := 50) C dX6_spared_50 (sl_K (cl_s1 hC)) ?_
            refine z_eqi (y := nI n) (hn'.1.1.2.2) ?_
            refine z_icmp_geF (pc := 53) C 107 dX6_spared_53 (by decide) (nI_ge (by omega) (by omega)) ?_
            refine z_aload_n (pc := 56) C dX6_spared_56 rfl ?_
            refine gX6_19 (pc := 57) C dX6_spared_57 (cl_K hC) (cl_r2 hC) ?_
            refine z_aload_n (pc := 60) C dX6_spared_60 rfl ?_
            refine gX6_10 (pc := 61) C dX6_spared_61 (cl_K hC) (cl_r0 hC) ?_
            refine kX6_163 (pc := 64) C dX6_spared_64 (c3_becomes κ.2.1 E S' im' (B + 31) (cl_s3 hC) (B + 1) (cl_s1 hC) (by omega) X f n n7 hn' (by omega) (by omega)) (sl_K (cl_s3 hC)) (by decide) (Nat.le_of_ble_eq_true rfl) (Nat.le_refl _) (Nat.le_refl _) (fun S_64 im_64 h_64 => ?_)
            obtain ⟨sx_64, ht_64, -, fq_64⟩ := h_64
            have hC := CL_X hC sx_64 (Or.inr (Or.inr rfl))
            have hn_64 : ST S_64 im_64 (B + 1) X f n n7 := ST_fr (ST_X hn' sx_64 (by omega) (by omega)) (fun a h1 h2 _ => fq_64 a (by omega)) (fun a h1 _ => fq_64 a (by omega))
            have fr_64 : frC B X im' im_64 := fun a h1 h2 h3 => fq_64 a (by omega)
            refine z_aload_n (pc := 67) C dX6_spared_67 rfl ?_
            refine gX6_19 (pc := 68) C dX6_spared_68 (cl_K hC) (cl_r2 hC) ?_
            refine z_iload_n (pc := 71) C dX6_spared_71 rfl ?_
            refine z_iload (pc := 72) C dX6_spared_72 rfl ?_
            refine kX6_150 (pc := 74) C dX6_spared_74 (c3_passNights κ.2.1 E S_64 im_64 (B + 31) (cl_s3 hC) X (f) n n7 ht_64 (by omega) (x0) (by omega) (nI i)) (sl_K (cl_s3 hC)) (by decide) (Nat.le_of_ble_eq_true rfl) (Nat.le_refl _) (Nat.le_refl _) (fun S_74 im_74 h_74 => ?_)
            obtain ⟨rfl, ht_74, -, fq_74⟩ := h_74
            have hn_74 : ST S_64 im_74 (B + 1) X f n n7 := ST_fr hn_64 (fun a h1 h2 _ => fq_74 a (by omega) (by omega)) (fun a h1 h2 => fq_74 a (by omega) (Or.inr h2))
            have hnE := hn_74
            have hfE : frC B X im im_74 := hfr.tr (fr_64.tr fq_74.C3)
            refine z_aload_n (pc := 77) C dX6_spared_77 rfl ?_
            refine gX6_19 (pc := 78) C dX6_spared_78 (cl_K hC) (cl_r2 hC) ?_
            refine gX6_144 (pc := 81) C dX6_spared_81 (sl_K (cl_s3 hC)) ?_
            refine z_eqi (y := W i) (by rw [hW]; exact ht_74.1.2.1.2.2.2.2.2.1) ?_
            refine z_iload (pc := 84) C dX6_spared_84 rfl ?_
            refine z_icmp_ge (pc := 86) C 101 dX6_spared_86 (by decide) (fun c_86 => ?_) (fun c_86 => ?_)
            · 
              refine z_iincN (pc := 101) C 1 dX6_spared_101 rfl (by decide) rfl ?_
              refine z_goto (pc := 104) C 44 dX6_spared_104 (by decide) ?_
              have := ih (i + 1) _ _ (by omega) (hsx.tr sx_64) hnE hfE
              rw [c_min, if_neg (i_nlt2 c_86)] at this
              exact this
            · 
              refine z_iload (pc := 89) C dX6_spared_89 rfl ?_
              refine z_istore_n (pc := 91) C dX6_spared_91 (by decide) rfl ?_
              refine z_aload_n (pc := 92) C dX6_spared_92 rfl ?_
              refine gX6_19 (pc := 93) C dX6_spared_93 (cl_K hC) (cl_r2 hC) ?_
              refine gX6_144 (pc := 96) C dX6_spared_96 (sl_K (cl_s3 hC)) ?_
              refine z_eqi (y := W i) (by rw [hW]; exact ht_74.1.2.1.2.2.2.2.2.1) ?_
              refine z_istore (pc := 99) C dX6_spared_99 (by decide) rfl ?_
              refine z_iincN (pc := 101) C 1 dX6_spared_101 rfl (by decide) rfl ?_
              refine z_goto (pc := 104) C 44 dX6_spared_104 (by decide) ?_
              have := ih (i + 1) _ _ (by omega) (hsx.tr sx_64) hnE hfE
              rw [c_min, if_pos (i_lt2 c_86)] at this
              exact this
        refine z_iconstN (pc := 35) C 0 dX6_spared_35 ?_
        refine z_istore_n (pc := 36) C dX6_spared_36 (by decide) rfl ?_
        refine z_ldc (pc := 37) C dX6_spared_37 wk_X6_181 ?_
        refine z_istore (pc := 39) C dX6_spared_39 (by decide) rfl ?_
        refine z_iconstN (pc := 41) C 0 dX6_spared_41 ?_
        refine z_istore (pc := 42) C dX6_spared_42 (by decide) rfl ?_
        exact loop n 0 S im (by omega) SX.rf hst frC.rf
      · 
        refine z_ldc (pc := 32) C dX6_spared_32 wk_X6_178 ?_
        exact z_iret (pc := 34) C ρ dX6_spared_34 (⟨_, rfl, by rw [r_spared, if_pos hb_4, if_pos hb_13, c_29, if_neg (by show ¬ (0 : Int32) ≤ -1; decide)], SX.rf, ⟨n, hst⟩, frC.rf⟩)
    · 
      refine z_if_neF (pc := 16) C 22 dX6_spared_16 (by decide) (by decide) ?_
      refine z_ldc (pc := 19) C dX6_spared_19 wk_X6_60 ?_
      exact z_iret (pc := 21) C ρ dX6_spared_21 (⟨_, rfl, by simp only [r_spared, if_pos hb_4, if_neg hb_13], SX.rf, ⟨n, hst⟩, frC.rf⟩)
  · 
    refine z_if_eqT (pc := 7) C 19 dX6_spared_7 (by decide) (by decide) ?_
    refine z_ldc (pc := 19) C dX6_spared_19 wk_X6_60 ?_
    exact z_iret (pc := 21) C ρ dX6_spared_21 (⟨_, rfl, by simp only [r_spared, if_neg hb_4], SX.rf, ⟨n, hst⟩, frC.rf⟩)
set_option maxRecDepth 100000 in
set_option maxHeartbeats 4000000 in
theorem c6_countLasts (l : Launch) (E : Ex) (S : Sx) (im : Mem) (B : Nat) (hC : CL S B) (X : Nat) (hX : B + 107 ≤ X) (f : Nat → Int32) (n n7 : Nat) (hst : ST S im (B + 1) X f n n7) (hn0 : ¬ n = 0) (x0 : Nat) (hx0 : x0 ≤ 60) : Mt l E yX6_countLasts cX6_countLasts 3 none 6 0 0 [.ref B, .int (nI x0)] S im (pV (fun S' im' => SX (B + 31) S S' ∧ (∀ j, j < 10 → im' (B + 52) j = s_oft f n n7 x0 j) ∧ ST S' im' (B + 1) X f n n7 ∧ frC B X im im')) := by
  refine Mt.of (by decide +kernel) rfl rfl (Nat.le_of_ble_eq_true rfl) ?_
  intro κ hκ C ρ
  subst hκ
  show V E κ 3 0 0 0 [some (.ref B), some (.int (nI x0)), none] [] S im
  have hn10 := hst.1.1.1
  have h14 := hst.2.1.1.1
  have hr := hst.1
  have hT := hst.2.1
  have hg := hst.2.2
  have hX1 : B + 1 + 15 ≤ X := by omega
  have loop : ∀ (r i : Nat) (im' : Mem), i + r = 10 → (∀ j, j < i → im' (B + 52) j = nI 0) → ST S im' (B + 1) X f n n7 → frC B X im im' → V E κ 3 0 0 2 [some (.ref B), some (.int (nI x0)), some (.int (nI i))] [] S im' := by
    intro r
    induction r with
    | zero =>
      intro i im' hi hz hst' hfr
      refine z_iload_n (pc := 2) C dX6_countLasts_2 rfl ?_
      refine z_bipushN (pc := 3) C 10 (by decide) dX6_countLasts_3 ?_
      refine z_icmp_geT (pc := 5) C 21 dX6_countLasts_5 (by decide) (nI_le (by omega) (by omega)) ?_
      refine z_aload_n (pc := 21) C dX6_countLasts_21 rfl ?_
      refine gX6_19 (pc := 22) C dX6_countLasts_22 (cl_K hC) (cl_r2 hC) ?_
      refine z_aload_n (pc := 25) C dX6_countLasts_25 rfl ?_
      refine gX6_10 (pc := 26) C dX6_countLasts_26 (cl_K hC) (cl_r0 hC) ?_
      refine kX6_163 (pc := 29) C dX6_countLasts_29 (c3_becomes κ.2.1 E S im' (B + 31) (cl_s3 hC) (B + 1) (cl_s1 hC) (by omega) X f n n7 hst' (by omega) (by omega)) (sl_K (cl_s3 hC)) (by decide) (Nat.le_of_ble_eq_true rfl) (Nat.le_refl _) (Nat.le_refl _) (fun S_29 im_29 h_29 => ?_)
      obtain ⟨sx_29, ht_29, -, fq_29⟩ := h_29
      have hC := CL_X hC sx_29 (Or.inr (Or.inr rfl))
      have hn_29 : ST S_29 im_29 (B + 1) X f n n7 := ST_fr (ST_X hst' sx_29 (by omega) (by omega)) (fun a h1 h2 _ => fq_29 a (by omega)) (fun a h1 _ => fq_29 a (by omega))
      have fr_29 : frC B X im' im_29 := fun a h1 h2 h3 => fq_29 a (by omega)
      have loop2 : ∀ (r i : Nat) (im' : Mem), i + r = x0 → ST S_29 im' (B + 31) X (s_nights f n n7 (-1) i) n n7 → ST S_29 im' (B + 1) X f n n7 → (∀ j, j < 10 → im' (B + 52) j = (s_oft f n n7 i) j) → frC B X im im' → V E κ 3 0 0 34 [some (.ref B), some (.int (nI x0)), some (.int (nI i))] [] S_29 im' := by
        intro r
        induction r with
        | zero =>
          intro i im' hi ht' hn' hcnt hfr
          have hsx := sx_29
          refine z_iload_n (pc := 34) C dX6_countLasts_34 rfl ?_
          refine z_iload_n (pc := 35) C dX6_countLasts_35 rfl ?_
          refine z_icmp_geT (pc := 36) C 69 dX6_countLasts_36 (by decide) (nI_le (by omega) (by omega)) ?_
          exact z_vret (pc := 69) C ρ dX6_countLasts_69 (⟨rfl, hsx, by rw [show x0 = i by omega]; exact hcnt, hn', hfr⟩)
        | succ r ih =>
          intro i im' hi ht' hn' hcnt hfr
          have hob : ordA (s_nights f n n7 (-1) i) n (n - 1) < n := ordA_lt (by omega)
          refine z_iload_n (pc := 34) C dX6_countLasts_34 rfl ?_
          refine z_iload_n (pc := 35) C dX6_countLasts_35 rfl ?_
          refine z_icmp_geF (pc := 36) C 69 dX6_countLasts_36 (by decide) (nI_ge (by omega) (by omega)) ?_
          refine z_aload_n (pc := 39) C dX6_countLasts_39 rfl ?_
          refine gX6_19 (pc := 40) C dX6_countLasts_40 (cl_K hC) (cl_r2 hC) ?_
          refine z_iconst (v := -1) (pc := 43) C dX6_countLasts_43 (by decide) ?_
          refine kX6_170 (pc := 44) C dX6_countLasts_44 (c3_passNight κ.2.1 E S_29 im' (B + 31) (cl_s3 hC) (s_nights f n n7 (-1) i) n ht'.1 X n7 ht'.2.1 (by omega) ht'.2.2 (-1)) (sl_K (cl_s3 hC)) (by decide) (Nat.le_of_ble_eq_true rfl) (Nat.le_refl _) (Nat.le_refl _) (fun S_44 im_44 h_44 => ?_)
          obtain ⟨rfl, g1, gL, g2, g3⟩ := h_44
          have h44 : ST S_29 im_44 (B + 31) X (s_nights f n n7 (-1) (i + 1)) n n7 := ST_mv ht' g1 (sam_night hn10) (RG_night hn10 ht'.2.2) g2 g3 (by omega)
          refine z_aload_n (pc := 47) C dX6_countLasts_47 rfl ?_
          refine gX6_45 (pc := 48) C dX6_countLasts_48 (cl_K hC) (cl_r9 hC) ?_
          refine z_aload_n (pc := 51) C dX6_countLasts_51 rfl ?_
          refine gX6_19 (pc := 52) C dX6_countLasts_52 (cl_K hC) (cl_r2 hC) ?_
          refine kX6_327 (pc := 55) C dX6_countLasts_55 (c3_hindmost κ.2.1 E S_29 im_44 (B + 31) (cl_s3 hC) n hn10 h44.1.1.2.2 hn0) (sl_K (cl_s3 hC)) (by decide) (Nat.le_of_ble_eq_true rfl) (Nat.le_refl _) (Nat.le_refl _) (fun v_55 S_55 im_55 h_55 => ?_)
          obtain ⟨rfl, rfl, rfl⟩ := h_55
          refine z_eqi (y := nI (ordA (s_nights f n n7 (-1) i) n (n - 1))) (gL _ (by omega)) ?_
          refine z_dup2 (pc := 58) C dX6_countLasts_58 rfl rfl ?_
          refine z_iald (pc := 59) C dX6_countLasts_59 (cl_a52 hC) (cl_n52 hC) (by omega) (by decide) ?_
          refine z_eqi (y := (s_oft f n n7 i) (ordA (s_nights f n n7 (-1) i) n (n - 1))) (by rw [g3 _ (by omega) (by omega)]; exact hcnt _ (by omega)) ?_
          refine z_iconstN (pc := 60) C 1 dX6_countLasts_60 ?_
          refine z_iadd (pc := 61) C dX6_countLasts_61 ?_
          refine z_iast (pc := 62) C dX6_countLasts_62 (cl_a52 hC) (cl_n52 hC) (by omega) (by decide) ?_
          refine z_iincN (pc := 63) C 1 dX6_countLasts_63 rfl (by decide) rfl ?_
          refine z_goto (pc := 66) C 34 dX6_countLasts_66 (by decide) ?_
          refine ih (i + 1) _ (by omega) (ST_fr h44 (fun a h1 h2 _ => up2_n _ _ _ (by omega)) (fun a h1 h2 => up2_n _ _ _ (by omega))) (ST_fr hn' (fun a h1 h2 _ => by rw [up2_n _ _ _ (by omega)]; exact g3 a (by omega) (by omega)) (fun a h1 h2 => by rw [up2_n _ _ _ (by omega)]; exact g3 a (by omega) (Or.inr h2))) (fun j hj => ?_) ((hfr.tr g3.C3).up (by omega))
          rw [up2_at, s_oft]
          by_cases e : j = ordA (s_nights f n n7 (-1) i) n (n - 1)
          · rw [if_pos e, e, upd_s]
          · rw [if_neg e, upd_n _ _ e, g3 _ (by omega) (by omega)]; exact hcnt j hj
      refine z_iconstN (pc := 32) C 0 dX6_countLasts_32 ?_
      refine z_istore_n (pc := 33) C dX6_countLasts_33 (by decide) rfl ?_
      exact loop2 x0 0 im_29 (by omega) ht_29 hn_29 (fun j hj => by rw [fq_29 _ (by omega)]; exact hz j (by omega)) (hfr.tr fr_29)
    | succ r ih =>
      intro i im' hi hz hst' hfr
      refine z_iload_n (pc := 2) C dX6_countLasts_2 rfl ?_
      refine z_bipushN (pc := 3) C 10 (by decide) dX6_countLasts_3 ?_
      refine z_icmp_geF (pc := 5) C 21 dX6_countLasts_5 (by decide) (nI_ge (by omega) (by omega)) ?_
      refine z_aload_n (pc := 8) C dX6_countLasts_8 rfl ?_
      refine gX6_45 (pc := 9) C dX6_countLasts_9 (cl_K hC) (cl_r9 hC) ?_
      refine z_iload_n (pc := 12) C dX6_countLasts_12 rfl ?_
      refine z_iconstN (pc := 13) C 0 dX6_countLasts_13 ?_
      refine z_iast (pc := 14) C dX6_countLasts_14 (cl_a52 hC) (cl_n52 hC) (by omega) (by decide) ?_
      refine z_iincN (pc := 15) C 1 dX6_countLasts_15 rfl (by decide) rfl ?_
      refine z_goto (pc := 18) C 2 dX6_countLasts_18 (by decide) ?_
      refine ih (i + 1) _ (by omega) (fun j hj => ?_) (ST_fr hst' (fun a h1 h2 _ => up2_n _ _ _ (by omega)) (fun a h1 h2 => up2_n _ _ _ (by omega))) (hfr.up (by omega))
      rw [up2_at]
      by_cases e : j = i
      · rw [if_pos e]
      · rw [if_neg e]; exact hz j (by omega)
  refine z_iconstN (pc := 0) C 0 dX6_countLasts_0 ?_
  refine z_istore_n (pc := 1) C dX6_countLasts_1 (by decide) rfl ?_
  exact loop 10 0 im (by omega) (fun j h => absurd h (Nat.not_lt_zero _)) hst frC.rf
set_option maxRecDepth 100000 in
set_option maxHeartbeats 4000000 in
theorem c6_last (l : Launch) (E : Ex) (S : Sx) (im : Mem) (B : Nat) (hC : CL S B) (X : Nat) (hX : B + 107 ≤ X) (f : Nat → Int32) (n n7 : Nat) (hst : ST S im (B + 1) X f n n7) (x w : Int32) : Mt l E yX6_last cX6_last 5 (some .int) 7 0 0 [.ref B, .int x, .int w] S im (pI (pC S im B X n7 (r_last f n n7 x w) (f))) := by
  refine Mt.of (by decide +kernel) rfl rfl (Nat.le_of_ble_eq_true rfl) ?_
  intro κ hκ C ρ
  subst hκ
  show V E κ 5 0 0 0 [some (.ref B), some (.int x), some (.int w), none, none] [] S im
  have hn10 := hst.1.1.1
  have h14 := hst.2.1.1.1
  have hr := hst.1
  have hT := hst.2.1
  have hg := hst.2.2
  have hX1 : B + 1 + 15 ≤ X := by omega
  refine z_iload_n (pc := 0) C dX6_last_0 rfl ?_
  refine z_iconstN (pc := 1) C 1 dX6_last_1 ?_
  refine z_bipushN (pc := 2) C 60 (by decide) dX6_last_2 ?_
  refine kX6_56 (pc := 4) C dX6_last_4 (c6_within κ.2.1 E S im (x) (nI 1) (nI 60)) (by decide) (Nat.le_of_ble_eq_true rfl) (Nat.le_refl _) (Nat.le_refl _) (fun v_4 S_4 im_4 h_4 => ?_)
  rcases h_4 with ⟨hb_4, rfl, rfl, rfl⟩ | ⟨hb_4, rfl, rfl, rfl⟩
  · 
    obtain ⟨x0, hx00, hx0, rfl⟩ := (rng (by decide) (by decide)).mp hb_4
    have hcx : (nI x0).toNatClampNeg = x0 := nI_clamp (by omega)
    refine z_if_eqF (pc := 7) C 19 dX6_last_7 (by decide) (by decide) ?_
    refine z_iload_n (pc := 10) C dX6_last_10 rfl ?_
    refine z_iconstN (pc := 11) C 0 dX6_last_11 ?_
    refine z_iconstN (pc := 12) C 1 dX6_last_12 ?_
    refine kX6_56 (pc := 13) C dX6_last_13 (c6_within κ.2.1 E S im (w) (nI 0) (nI 1)) (by decide) (Nat.le_of_ble_eq_true rfl) (Nat.le_refl _) (Nat.le_refl _) (fun v_13 S_13 im_13 h_13 => ?_)
    rcases h_13 with ⟨hb_13, rfl, rfl, rfl⟩ | ⟨hb_13, rfl, rfl, rfl⟩
    · 
      refine z_if_neT (pc := 16) C 22 dX6_last_16 (by decide) (by decide) ?_
      refine z_aload_n (pc := 22) C dX6_last_22 rfl ?_
      refine gX6_10 (pc := 23) C dX6_last_23 (cl_K hC) (cl_r0 hC) ?_
      refine gX6_61 (pc := 26) C dX6_last_26 (sl_K (cl_s1 hC)) ?_
      refine z_eqi (y := nI n) (hr.1.2.2) ?_
      refine z_if_neN (pc := 29) C 35 dX6_last_29 (by decide) (by omega) (fun c_29 => ?_) (fun c_29 => ?_)
      · 
        refine z_aload_n (pc := 35) C dX6_last_35 rfl ?_
        refine z_iload_n (pc := 36) C dX6_last_36 rfl ?_
        refine kX6_182 (pc := 37) C dX6_last_37 (c6_countLasts κ.2.1 E S im B hC X hX f n n7 hst c_29 x0 hx0) (cl_K hC) (by decide) (Nat.le_of_ble_eq_true rfl) (Nat.le_refl _) (Nat.le_refl _) (fun S_37 im_37 h_37 => ?_)
        obtain ⟨hsx, hcnt, hn', hfr⟩ := h_37
        have hC := CL_X hC hsx (Or.inr (Or.inr rfl))
        have loop : ∀ (r i : Nat), i + r = n → 1 ≤ i → V E κ 5 0 0 45 [some (.ref B), some (.int (nI x0)), some (.int w), some (.int (nI (s_bst (s_oft f n n7 x0) i))), some (.int (nI i))] [] S_37 im_37 := by
          intro r
          induction r with
          | zero =>
            intro i hi h1i
            have hble := s_bst_le (s_oft f n n7 x0) i
            refine z_iload (pc := 45) C dX6_last_45 rfl ?_
            refine z_aload_n (pc := 47) C dX6_last_47 rfl ?_
            refine gX6_10 (pc := 48) C dX6_last_48 (cl_K hC) (cl_r0 hC) ?_
            refine gX6_61 (pc := 51) C dX6_last_51 (sl_K (cl_s1 hC)) ?_
            refine z_eqi (y := nI n) (hn'.1.1.2.2) ?_
            refine z_icmp_geT (pc := 54) C 82 dX6_last_54 (by decide) (nI_le (by omega) (by omega)) ?_
            refine z_iload_n (pc := 82) C dX6_last_82 rfl ?_
            refine z_if_ne (pc := 83) C 90 dX6_last_83 (by decide) (fun c_83 => ?_) (fun c_83 => ?_)
            · 
              refine z_aload_n (pc := 90) C dX6_last_90 rfl ?_
              refine gX6_45 (pc := 91) C dX6_last_91 (cl_K hC) (cl_r9 hC) ?_
              refine z_iload_n (pc := 94) C dX6_last_94 rfl ?_
              refine z_iald (pc := 95) C dX6_last_95 (cl_a52 hC) (cl_n52 hC) (by omega) (by decide) ?_
              exact z_iret (pc := 96) C ρ dX6_last_96 (⟨_, rfl, by rw [r_last, if_pos hb_4, if_pos hb_13, if_neg c_29, if_neg c_83, hcx]; rw [hcnt (s_bst (s_oft f n n7 x0) i) (by omega), show i = n by omega], hsx, ⟨n, hn'⟩, hfr⟩)
            · 
              refine z_iload_n (pc := 86) C dX6_last_86 rfl ?_
              refine z_goto (pc := 87) C 96 dX6_last_87 (by decide) ?_
              exact z_iret (pc := 96) C ρ dX6_last_96 (⟨_, rfl, by rw [r_last, if_pos hb_4, if_pos hb_13, if_neg c_29, if_pos c_83, hcx]; rw [show i = n by omega], hsx, ⟨n, hn'⟩, hfr⟩)
          | succ r ih =>
            intro i hi h1i
            have hble := s_bst_le (s_oft f n n7 x0) i
            refine z_iload (pc := 45) C dX6_last_45 rfl ?_
            refine z_aload_n (pc := 47) C dX6_last_47 rfl ?_
            refine gX6_10 (pc := 48) C dX6_last_48 (cl_K hC) (cl_r0 hC) ?_
            refine gX6_61 (pc := 51) C dX6_last_51 (sl_K (cl_s1 hC)) ?_
            refine z_eqi (y := nI n) (hn'.1.1.2.2) ?_
            refine z_icmp_geF (pc := 54) C 82 dX6_last_54 (by decide) (nI_ge (by omega) (by omega)) ?_
            refine z_aload_n (pc := 57) C dX6_last_57 rfl ?_
            refine gX6_45 (pc := 58) C dX6_last_58 (cl_K hC) (cl_r9 hC) ?_
            refine z_iload (pc := 61) C dX6_last_61 rfl ?_
            refine z_iald (pc := 63) C dX6_last_63 (cl_a52 hC) (cl_n52 hC) (by omega) (by decide) ?_
            refine z_eqi (y := (s_oft f n n7 x0) i) (hcnt i (by omega)) ?_
            refine z_aload_n (pc := 64) C dX6_last_64 rfl ?_
            refine gX6_45 (pc := 65) C dX6_last_65 (cl_K hC) (cl_r9 hC) ?_
            refine z_iload_n (pc := 68) C dX6_last_68 rfl ?_
            refine z_iald (pc := 69) C dX6_last_69 (cl_a52 hC) (cl_n52 hC) (by omega) (by decide) ?_
            refine z_eqi (y := (s_oft f n n7 x0) (s_bst (s_oft f n n7 x0) i)) (hcnt _ (by omega)) ?_
            refine z_icmp_le (pc := 70) C 76 dX6_last_70 (by decide) (fun c_70 => ?_) (fun c_70 => ?_)
            · 
              refine z_iincN (pc := 76) C 1 dX6_last_76 rfl (by decide) rfl ?_
              refine z_goto (pc := 79) C 45 dX6_last_79 (by decide) ?_
              have := ih (i + 1) (by omega) (by omega)
              rw [s_bst, if_pos c_70] at this
              exact this
            · 
              refine z_iload (pc := 73) C dX6_last_73 rfl ?_
              refine z_istore_n (pc := 75) C dX6_last_75 (by decide) rfl ?_
              refine z_iincN (pc := 76) C 1 dX6_last_76 rfl (by decide) rfl ?_
              refine z_goto (pc := 79) C 45 dX6_last_79 (by decide) ?_
              have := ih (i + 1) (by omega) (by omega)
              rw [s_bst, if_neg c_70] at this
              exact this
        refine z_iconstN (pc := 40) C 0 dX6_last_40 ?_
        refine z_istore_n (pc := 41) C dX6_last_41 (by decide) rfl ?_
        refine z_iconstN (pc := 42) C 1 dX6_last_42 ?_
        refine z_istore (pc := 43) C dX6_last_43 (by decide) rfl ?_
        have hl := loop (n - 1) 1 (by omega) (by omega)
        rw [show s_bst (s_oft f n n7 x0) 1 = 0 from by rw [s_bst]; split <;> rfl] at hl
        exact hl
      · 
        refine z_ldc (pc := 32) C dX6_last_32 wk_X6_178 ?_
        exact z_iret (pc := 34) C ρ dX6_last_34 (⟨_, rfl, by rw [r_last, if_pos hb_4, if_pos hb_13, if_pos c_29], SX.rf, ⟨n, hst⟩, frC.rf⟩)
    · 
      refine z_if_neF (pc := 16) C 22 dX6_last_16 (by decide) (by decide) ?_
      refine z_ldc (pc := 19) C dX6_last_19 wk_X6_60 ?_
      exact z_iret (pc := 21) C ρ dX6_last_21 (⟨_, rfl, by simp only [r_last, if_pos hb_4, if_neg hb_13], SX.rf, ⟨n, hst⟩, frC.rf⟩)
  · 
    refine z_if_eqT (pc := 7) C 19 dX6_last_7 (by decide) (by decide) ?_
    refine z_ldc (pc := 19) C dX6_last_19 wk_X6_60 ?_
    exact z_iret (pc := 21) C ρ dX6_last_21 (⟨_, rfl, by simp only [r_last, if_neg hb_4], SX.rf, ⟨n, hst⟩, frC.rf⟩)
