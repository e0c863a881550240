/-! the class: passNight, passNights -/
set_option maxRecDepth 100000 in
set_option maxHeartbeats 4000000 in
theorem c3_passNight (l : Launch) (E : Ex) (S : Sx) (im : Mem) (q : Nat) (hs : SL S q) (f : Nat → Int32) (n : Nat) (hr : SR im q f n) (X n7 : Nat) (hT : TR S im q X f n7) (hqX : q + 15 ≤ X) (hg : RG f n) (sp : Int32) : Mt l E yX3_passNight cX3_passNight 6 none 5 0 0 [.ref q, .int sp] S im (pV (fun S' im' => S = S' ∧ SR im' q (s_night f n n7 sp) n ∧ (∀ j, j < n → im' (q + 2) j = nI (ordA f n j)) ∧ im' (q + 4) = im (q + 4) ∧ frQ q X im im')) := by
  refine Mt.of (by decide +kernel) rfl rfl (Nat.le_of_ble_eq_true rfl) ?_
  intro κ hκ C ρ
  subst hκ
  show V E κ 6 0 0 0 [some (.ref q), some (.int sp), none, none, none, none] [] S im
  have hn10 := hr.1.1
  obtain ⟨g, hgd⟩ : ∃ g, g = s_dusk f := ⟨_, rfl⟩
  have hgg : RG g n := by rw [hgd]; exact RG_dusk hg
  refine z_aload_n (pc := 0) C dX3_passNight_0 rfl ?_
  refine z_aload_n (pc := 1) C dX3_passNight_1 rfl ?_
  refine kX3_116 (pc := 2) C dX3_passNight_2 (c3_drawn κ.2.1 E S im q hs) (sl_K hs) (by decide) (Nat.le_of_ble_eq_true rfl) (Nat.le_refl _) (Nat.le_refl _) (fun v_2 S_2 im_2 h_2 => ?_)
  obtain ⟨rfl, rfl, rfl⟩ := h_2
  refine z_bipushN (pc := 5) C 10 (by decide) dX3_passNight_5 ?_
  refine z_irem (pc := 7) C dX3_passNight_7 (by decide) ?_
  refine pX3_49 (pc := 8) C dX3_passNight_8 (sl_K hs) ?_
  have hr1 : SR (up2 (up2 im q 8 (s_z (im q 8))) q 4 ((s_sh (s_z (im q 8))) - (s_sh (s_z (im q 8))) / (nI 10) * (nI 10))) q g n := by
    have h0 := SR_h4 (x := s_sh (s_z (f 0)) - s_sh (s_z (f 0)) / nI 10 * nI 10) (SR_h0 (x := s_z (f 0)) hr)
    rw [hr.2.1.1, hgd]
    exact h0
  refine z_aload_n (pc := 11) C dX3_passNight_11 rfl ?_
  refine kX3_103 (pc := 12) C dX3_passNight_12 (c3_lineUp κ.2.1 E S _ q hs g n hr1) (sl_K hs) (by decide) (Nat.le_of_ble_eq_true rfl) (Nat.le_refl _) (Nat.le_refl _) (fun S_12 im_12 h_12 => ?_)
  obtain ⟨rfl, hL, hc⟩ := h_12
  have hcc : ∀ a, a ≠ q → a ≠ q + 2 → im_12 a = im a := fun a h1 h2 => by rw [hc a h2, up2_n _ _ _ h1, up2_n _ _ _ h1]
  have hr12 : SR im_12 q g n := SR_fr hr1 (hc q (by omega)) (fun l _ => hc _ (by omega))
  have hfr12 : frQ q X im im_12 := fun a h1 _ => hcc a (by omega) (by omega)
  obtain ⟨R, hR⟩ : ∃ R, R = (s_run g (ordA g n) n7 sp n).1 := ⟨_, rfl⟩
  have hrn := fun i => run_rng (n7 := n7) (sp := sp) hgg hn10 (fun i hi => ordA_lt (f := g) hi) i
  have hRg : RG R n := by rw [hR]; exact (hrn n (Nat.le_refl _)).1
  have hfin : ∀ im', SR im' q (s_pour R sp n) n → SR (up2 im' q 7 ((s_pour R sp n) 2 + nI 1)) q (s_night f n n7 sp) n := fun im' h => by
    have := SR_h2 (x := (s_pour R sp n) 2 + nI 1) h
    rw [hR, hgd] at this
    rw [hR, hgd]
    exact this
  have loop2 : ∀ (r i : Nat) (im' : Mem) (y2 y3 : Int32) (y5 : Option Value), i + r = n → SR im' q (s_pour R sp i) n → (∀ j, j < n → im' (q + 2) j = nI (ordA g n j)) → frQ q X im im' → im' (q + 4) = im (q + 4) → V E κ 6 0 0 103 [some (.ref q), some (.int sp), some (.int y2), some (.int y3), some (.int (nI i)), y5] [] S im' := by
    intro r
    induction r with
    | zero =>
      intro i im' y2 y3 y5 hi hr' hL' hfr hq4
      refine z_iload (pc := 103) C dX3_passNight_103 rfl ?_
      refine z_aload_n (pc := 105) C dX3_passNight_105 rfl ?_
      refine gX3_39 (pc := 106) C dX3_passNight_106 (sl_K hs) ?_
      refine z_eqi (y := nI n) (hr'.1.2.2) ?_
      refine z_icmp_geT (pc := 109) C 161 dX3_passNight_109 (by decide) (nI_le (by omega) (by omega)) ?_
      refine z_aload_n (pc := 161) C dX3_passNight_161 rfl ?_
      refine z_dup (pc := 162) C dX3_passNight_162 rfl ?_
      refine gX3_55 (pc := 163) C dX3_passNight_163 (sl_K hs) ?_
      refine z_eqi (y := (s_pour R sp n) 2) (by have e : i = n := (by omega); rw [e] at hr'; exact hr'.2.1.2.1) ?_
      refine z_iconstN (pc := 166) C 1 dX3_passNight_166 ?_
      refine z_iadd (pc := 167) C dX3_passNight_167 ?_
      refine pX3_55 (pc := 168) C dX3_passNight_168 (sl_K hs) ?_
      exact z_vret (pc := 171) C ρ dX3_passNight_171 (⟨rfl, rfl, hfin _ (by have e : i = n := (by omega); rw [e] at hr'; exact hr'), fun j hj => by rw [up2_n _ _ _ (by omega), hL' j hj, hgd, ordA_dusk], by rw [up2_n _ _ _ (by omega)]; exact hq4, hfr.up (by omega) (by omega)⟩)
    | succ r ih =>
      intro i im' y2 y3 y5 hi hr' hL' hfr hq4
      have hgp := (RG_pour (sp := sp) hRg i (by omega)).2.2 i (by omega)
      refine z_iload (pc := 103) C dX3_passNight_103 rfl ?_
      refine z_aload_n (pc := 105) C dX3_passNight_105 rfl ?_
      refine gX3_39 (pc := 106) C dX3_passNight_106 (sl_K hs) ?_
      refine z_eqi (y := nI n) (hr'.1.2.2) ?_
      refine z_icmp_geF (pc := 109) C 161 dX3_passNight_109 (by decide) (nI_ge (by omega) (by omega)) ?_
      refine z_iload (pc := 112) C dX3_passNight_112 rfl ?_
      refine z_iload_n (pc := 114) C dX3_passNight_114 rfl ?_
      refine z_icmp_eq (pc := 115) C 155 dX3_passNight_115 (by decide) (fun c_115 => ?_) (fun c_115 => ?_)
      · 
        refine z_iincN (pc := 155) C 1 dX3_passNight_155 rfl (by decide) rfl ?_
        refine z_goto (pc := 158) C 103 dX3_passNight_158 (by decide) ?_
        refine ih (i + 1) im' _ _ _ (by omega) ?_ hL' hfr hq4
        rw [pour_id hRg (by omega) c_115]
        exact hr'
      · 
        refine z_aload_n (pc := 118) C dX3_passNight_118 rfl ?_
        refine gX3_11 (pc := 119) C dX3_passNight_119 (sl_K hs) (sl_r0 hs) ?_
        refine z_iload (pc := 122) C dX3_passNight_122 rfl ?_
        refine z_aald (pc := 124) C dX3_passNight_124 (sl_a1 hs) (by decide) (sl_n1 hs) (by omega) (by decide) (sl_e hs (i := i) (by omega)) ?_
        refine z_aload_n (pc := 125) C dX3_passNight_125 rfl ?_
        refine gX3_11 (pc := 126) C dX3_passNight_126 (sl_K hs) (sl_r0 hs) ?_
        refine z_iload (pc := 129) C dX3_passNight_129 rfl ?_
        refine z_aald (pc := 131) C dX3_passNight_131 (sl_a1 hs) (by decide) (sl_n1 hs) (by omega) (by decide) (sl_e hs (i := i) (by omega)) ?_
        refine gX3_73 (pc := 132) C dX3_passNight_132 (sl_l hs (i := i) (by omega)) ?_
        refine z_eqi (y := (s_pour R sp i) (8 + 7 * i + 2)) (hr'.2.2 i (by omega) 2 (by decide)) ?_
        refine z_aload_n (pc := 135) C dX3_passNight_135 rfl ?_
        refine gX3_11 (pc := 136) C dX3_passNight_136 (sl_K hs) (sl_r0 hs) ?_
        refine z_iload (pc := 139) C dX3_passNight_139 rfl ?_
        refine z_aald (pc := 141) C dX3_passNight_141 (sl_a1 hs) (by decide) (sl_n1 hs) (by omega) (by decide) (sl_e hs (i := i) (by omega)) ?_
        refine gX3_76 (pc := 142) C dX3_passNight_142 (sl_l hs (i := i) (by omega)) ?_
        refine z_eqi (y := (s_pour R sp i) (8 + 7 * i + 3)) (hr'.2.2 i (by omega) 3 (by decide)) ?_
        refine z_iadd (pc := 145) C dX3_passNight_145 ?_
        refine z_sipush (v := nI 999) (pc := 146) C dX3_passNight_146 (by decide +kernel) ?_
        refine z_min (pc := 149) C dX3_passNight_149 wm_X3_124 (by decide) (Nat.le_of_ble_eq_true rfl) (Nat.zero_le _) (Nat.zero_le _) ?_
        refine z_eqi (y := s_within ((s_pour R sp i) (8 + 7 * i + 2) + (s_pour R sp i) (8 + 7 * i + 3)) (nI 0) (nI 999)) (pour_eq hgp.2.2.1 hgp.2.2.2.1) ?_
        refine pX3_73 (pc := 152) C dX3_passNight_152 (sl_l hs (i := i) (by omega)) ?_
        refine z_iincN (pc := 155) C 1 dX3_passNight_155 rfl (by decide) rfl ?_
        refine z_goto (pc := 158) C 103 dX3_passNight_158 (by decide) ?_
        refine ih (i + 1) _ _ _ _ (by omega) ?_ (fun j hj => by rw [up2_n _ _ _ (by omega)]; exact hL' j hj) (hfr.up (by omega) (by omega)) (by rw [up2_n _ _ _ (by omega)]; exact hq4)
        rw [s_pour, if_neg c_115]
        exact SR_lamp hr' (by omega) (by decide)
  have loop1 : ∀ (r i : Nat) (im' : Mem) (y5 : Option Value), i + r = n → SR im' q (upd (s_run g (ordA g n) n7 sp i).1 6 (g 6)) n → (∀ j, j < n → im' (q + 2) j = nI (ordA g n j)) → frQ q X im im' → im' (q + 4) = im (q + 4) → V E κ 6 0 0 22 [some (.ref q), some (.int sp), some (.int ((s_run g (ordA g n) n7 sp i).2.1)), some (.int ((s_run g (ordA g n) n7 sp i).2.2)), some (.int (nI i)), y5] [] S im' := by
    intro r
    induction r with
    | zero =>
      intro i im' y5 hi hr' hL' hfr hq4
      refine z_iload (pc := 22) C dX3_passNight_22 rfl ?_
      refine z_aload_n (pc := 24) C dX3_passNight_24 rfl ?_
      refine gX3_39 (pc := 25) C dX3_passNight_25 (sl_K hs) ?_
      refine z_eqi (y := nI n) (hr'.1.2.2) ?_
      refine z_icmp_geT (pc := 28) C 90 dX3_passNight_28 (by decide) (nI_le (by omega) (by omega)) ?_
      refine z_aload_n (pc := 90) C dX3_passNight_90 rfl ?_
      refine z_dup (pc := 91) C dX3_passNight_91 rfl ?_
      refine gX3_52 (pc := 92) C dX3_passNight_92 (sl_K hs) ?_
      refine z_eqi (y := g 6) (by rw [hr'.2.1.2.2.2.2.2.1, upd_s]) ?_
      refine z_iload_n (pc := 95) C dX3_passNight_95 rfl ?_
      refine z_iadd (pc := 96) C dX3_passNight_96 ?_
      refine pX3_52 (pc := 97) C dX3_passNight_97 (sl_K hs) ?_
      refine z_iconstN (pc := 100) C 0 dX3_passNight_100 ?_
      refine z_istore (pc := 101) C dX3_passNight_101 (by decide) rfl ?_
      refine loop2 n 0 _ _ _ _ (by omega) ?_ (fun j hj => by rw [up2_n _ _ _ (by omega)]; exact hL' j hj) (hfr.up (by omega) (by omega)) (by rw [up2_n _ _ _ (by omega)]; exact hq4)
      have e : R = upd (upd (s_run g (ordA g n) n7 sp i).1 6 (g 6)) 6 (g 6 + (s_run g (ordA g n) n7 sp i).2.1) := by
        rw [upd_upd, hR, show n = i by omega, upd_id (run6 i)]
      show SR _ q R n
      rw [e]
      exact SR_h6 hr'
    | succ r ih =>
      intro i im' y5 hi hr' hL' hfr hq4
      have hob : ordA g n i < n := ordA_lt (by omega)
      have hrr := hrn i (by omega)
      have hsm : sam f (upd (s_run g (ordA g n) n7 sp i).1 6 (g 6)) := (hgd ▸ sam_dusk : sam f g).tr ((sam_run (n := n) (fun i hi => by have := ordA_lt (f := g) hi; omega) i (by omega)).tr (sam.upd (by decide) (by decide) (by decide)))
      have hT' : TR S im' q X (upd (s_run g (ordA g n) n7 sp i).1 6 (g 6)) n7 := TR_mv hT hsm (by rw [hr'.2.1.2.2.2.2.2.2, hsm.2.1]; exact hT.1.2.2) hq4 (fun a h1 h2 => hfr a (by omega) (Or.inr h2))
      have hmi : ¬ nI (ordA g n i) = sp → inR 0 1000 ((s_run g (ordA g n) n7 sp i).2.1 + (s_apart ((s_run g (ordA g n) n7 sp i).1 (8 + 7 * (ordA g n i) + 1)) (s_run g (ordA g n) n7 sp i).2.2 + nI 1)) := fun h => by
        have h2 := (hrn (i + 1) (by omega)).2.1
        rw [s_run, if_neg h] at h2
        exact inR_wk h2 (by omega) (by omega)
      refine z_iload (pc := 22) C dX3_passNight_22 rfl ?_
      refine z_aload_n (pc := 24) C dX3_passNight_24 rfl ?_
      refine gX3_39 (pc := 25) C dX3_passNight_25 (sl_K hs) ?_
      refine z_eqi (y := nI n) (hr'.1.2.2) ?_
      refine z_icmp_geF (pc := 28) C 90 dX3_passNight_28 (by decide) (nI_ge (by omega) (by omega)) ?_
      refine z_aload_n (pc := 31) C dX3_passNight_31 rfl ?_
      refine gX3_17 (pc := 32) C dX3_passNight_32 (sl_K hs) (sl_r2 hs) ?_
      refine z_iload (pc := 35) C dX3_passNight_35 rfl ?_
      refine z_iald (pc := 37) C dX3_passNight_37 (sl_a2 hs) (sl_n2 hs) (by omega) (by decide) ?_
      refine z_eqi (y := nI (ordA g n i)) (hL' i (by omega)) ?_
      refine z_iload_n (pc := 38) C dX3_passNight_38 rfl ?_
      refine z_icmp_eq (pc := 39) C 84 dX3_passNight_39 (by decide) (fun c_39 => ?_) (fun c_39 => ?_)
      · 
        refine z_iincN (pc := 84) C 1 dX3_passNight_84 rfl (by decide) rfl ?_
        refine z_goto (pc := 87) C 22 dX3_passNight_87 (by decide) ?_
        have e : s_run g (ordA g n) n7 sp (i + 1) = s_run g (ordA g n) n7 sp i := by rw [s_run, if_pos c_39]
        have := ih (i + 1) im' y5 (by omega) (by rw [e]; exact hr') hL' hfr hq4
        rw [e] at this
        exact this
      · 
        refine z_aload_n (pc := 42) C dX3_passNight_42 rfl ?_
        refine gX3_11 (pc := 43) C dX3_passNight_43 (sl_K hs) (sl_r0 hs) ?_
        refine z_aload_n (pc := 46) C dX3_passNight_46 rfl ?_
        refine gX3_17 (pc := 47) C dX3_passNight_47 (sl_K hs) (sl_r2 hs) ?_
        refine z_iload (pc := 50) C dX3_passNight_50 rfl ?_
        refine z_iald (pc := 52) C dX3_passNight_52 (sl_a2 hs) (sl_n2 hs) (by omega) (by decide) ?_
        refine z_eqi (y := nI (ordA g n i)) (hL' i (by omega)) ?_
        refine z_aald (pc := 53) C dX3_passNight_53 (sl_a1 hs) (by decide) (sl_n1 hs) (by omega) (by decide) (sl_e hs (i := ordA g n i) (by omega)) ?_
        refine z_astore (pc := 54) C dX3_passNight_54 (by decide) rfl ?_
        refine z_iload_n (pc := 56) C dX3_passNight_56 rfl ?_
        refine z_aload (pc := 57) C dX3_passNight_57 rfl ?_
        refine gX3_70 (pc := 59) C dX3_passNight_59 (sl_l hs (i := (ordA g n i)) (by omega)) ?_
        refine z_eqi (y := (s_run g (ordA g n) n7 sp i).1 (8 + 7 * (ordA g n i) + 1)) (by rw [hr'.2.2 _ hob 1 (by decide)]; exact upd_n _ _ (by omega)) ?_
        refine z_iload_n (pc := 62) C dX3_passNight_62 rfl ?_
        refine z_isub (pc := 63) C dX3_passNight_63 ?_
        refine z_abs (pc := 64) C dX3_passNight_64 wm_X3_106 (by decide) (Nat.le_of_ble_eq_true rfl) (Nat.zero_le _) (Nat.zero_le _) ?_
        refine z_eqi (y := s_apart ((s_run g (ordA g n) n7 sp i).1 (8 + 7 * (ordA g n i) + 1)) (s_run g (ordA g n) n7 sp i).2.2) (abs_apart (hrr.1.2.2 _ hob).2.1 hrr.2.2) ?_
        refine z_iconstN (pc := 67) C 1 dX3_passNight_67 ?_
        refine z_iadd (pc := 68) C dX3_passNight_68 ?_
        refine z_iadd (pc := 69) C dX3_passNight_69 ?_
        refine z_istore_n (pc := 70) C dX3_passNight_70 (by decide) rfl ?_
        refine z_aload (pc := 71) C dX3_passNight_71 rfl ?_
        refine gX3_70 (pc := 73) C dX3_passNight_73 (sl_l hs (i := (ordA g n i)) (by omega)) ?_
        refine z_eqi (y := (s_run g (ordA g n) n7 sp i).1 (8 + 7 * (ordA g n i) + 1)) (by rw [hr'.2.2 _ hob 1 (by decide)]; exact upd_n _ _ (by omega)) ?_
        refine z_istore_n (pc := 76) C dX3_passNight_76 (by decide) rfl ?_
        refine z_aload_n (pc := 77) C dX3_passNight_77 rfl ?_
        refine z_aload (pc := 78) C dX3_passNight_78 rfl ?_
        refine z_iload_n (pc := 80) C dX3_passNight_80 rfl ?_
        refine kX3_120 (pc := 81) C dX3_passNight_81 (c3_light κ.2.1 E S im' q hs (upd (s_run g (ordA g n) n7 sp i).1 6 (g 6)) n hr' X n7 hT' hqX (RG_hd hrr.1 (upd_n _ _ (by decide)) (upd_n _ _ (by decide)) (fun j hj _ => upd_n _ _ (by omega))) (ordA g n i) hob ((s_run g (ordA g n) n7 sp i).2.1 + (s_apart ((s_run g (ordA g n) n7 sp i).1 (8 + 7 * (ordA g n i) + 1)) (s_run g (ordA g n) n7 sp i).2.2 + nI 1)) (hmi c_39)) (sl_K hs) (by decide) (Nat.le_of_ble_eq_true rfl) (Nat.le_refl _) (Nat.le_refl _) (fun S_81 im_81 h_81 => ?_)
        obtain ⟨rfl, hr2, hf2⟩ := h_81
        refine z_iincN (pc := 84) C 1 dX3_passNight_84 rfl (by decide) rfl ?_
        refine z_goto (pc := 87) C 22 dX3_passNight_87 (by decide) ?_
        have e : s_run g (ordA g n) n7 sp (i + 1) = (s_lights (upd (s_run g (ordA g n) n7 sp i).1 6 ((s_run g (ordA g n) n7 sp i).1 6 + (s_apart ((s_run g (ordA g n) n7 sp i).1 (8 + 7 * (ordA g n i) + 1)) (s_run g (ordA g n) n7 sp i).2.2 + nI 1))) n7 (ordA g n i) ((s_run g (ordA g n) n7 sp i).2.1 + (s_apart ((s_run g (ordA g n) n7 sp i).1 (8 + 7 * (ordA g n i) + 1)) (s_run g (ordA g n) n7 sp i).2.2 + nI 1)), (s_run g (ordA g n) n7 sp i).2.1 + (s_apart ((s_run g (ordA g n) n7 sp i).1 (8 + 7 * (ordA g n i) + 1)) (s_run g (ordA g n) n7 sp i).2.2 + nI 1), (s_run g (ordA g n) n7 sp i).1 (8 + 7 * (ordA g n i) + 1)) := by rw [s_run, if_neg c_39]
        have := ih (i + 1) im_81 (some (.ref (q + 5 + (ordA g n i)))) (by omega) (by rw [e, lights6, upd_upd]; rw [lights6] at hr2; exact hr2) (fun j hj => by rw [hf2 _ (by omega) (by omega)]; exact hL' j hj) (hfr.tr (fun a g1 g2 => hf2 a (by omega) g2)) (by rw [hf2 _ (by omega) (by omega)]; exact hq4)
        rw [e] at this
        exact this
  refine z_iconstN (pc := 15) C 0 dX3_passNight_15 ?_
  refine z_istore_n (pc := 16) C dX3_passNight_16 (by decide) rfl ?_
  refine z_iconstN (pc := 17) C 0 dX3_passNight_17 ?_
  refine z_istore_n (pc := 18) C dX3_passNight_18 (by decide) rfl ?_
  refine z_iconstN (pc := 19) C 0 dX3_passNight_19 ?_
  refine z_istore (pc := 20) C dX3_passNight_20 (by decide) rfl ?_
  refine loop1 n 0 im_12 _ (by omega) ?_ hL hfr12 (hcc _ (by omega) (by omega))
  show SR im_12 q (upd g 6 (g 6)) n
  rw [upd_id rfl]
  exact hr12
