/-! the class: copy; slots -/
def g_copyC (B : Nat) (im : Mem) (x p y q w sx sy zx zy : Int32) (im' : Mem) : Prop := if isSh x then (if isSh y then (if sx < 0 then im' = im else if 0 ≤ sy then (if sx = sy then (if p < 0 then im' = im else if q < 0 then im' = im else if w < 0 then im' = im else if zx - w < p then im' = im else if q ≤ zy - w then im' = va_up im (B + 53 + 2 * y.toNatClampNeg + 1) (va_cpy (im (B + 53 + 2 * x.toNatClampNeg + 1)) (im (B + 53 + 2 * y.toNatClampNeg + 1)) p.toNatClampNeg q.toNatClampNeg w.toNatClampNeg) else im' = im) else im' = im) else im' = im) else im' = im) else im' = im
theorem cp_iff {z : Nat} (hz : z ≤ 24) {p w : Int32} : (nI 0 ≤ p ∧ nI 0 ≤ w ∧ p ≤ nI z ∧ w ≤ nI z - p) ↔ (¬ p < 0 ∧ ¬ w < 0 ∧ p ≤ nI z - w) := by
  constructor
  · rintro ⟨h1, h2, h3, h4⟩
    obtain ⟨p0, -, hp0, rfl⟩ := (rng (by decide) (by omega)).mp ⟨h1, h3⟩
    rw [pk_sub hp0] at h4
    obtain ⟨w0, -, hw0, rfl⟩ := (rng (by decide) (by omega)).mp ⟨h2, h4⟩
    exact ⟨nI_pos (by omega), nI_pos (by omega), by rw [pk_sub (by omega)]; exact nI_le (by omega) (by omega)⟩
  · rintro ⟨h1, h2, h3⟩
    obtain ⟨p0, w0, rfl, rfl, h⟩ := cp_rng hz h1 h2 h3
    exact ⟨nI_le (by omega) (by omega), nI_le (by omega) (by omega), nI_le (by omega) (by omega), by rw [pk_sub (by omega)]; exact nI_le (by omega) (by omega)⟩
theorem cp_bad {α : Type} {p q w zx zy : Int32} {a b : α} (h : ¬ ((¬ p < 0 ∧ ¬ w < 0 ∧ p ≤ zx - w) ∧ (¬ q < 0 ∧ ¬ w < 0 ∧ q ≤ zy - w))) : (if p < 0 then a else if q < 0 then a else if w < 0 then a else if zx - w < p then a else if q ≤ zy - w then b else a) = a := by
  by_cases h1 : p < 0
  · rw [if_pos h1]
  · rw [if_neg h1]
    by_cases h2 : q < 0
    · rw [if_pos h2]
    · rw [if_neg h2]
      by_cases h3 : w < 0
      · rw [if_pos h3]
      · rw [if_neg h3]
        by_cases h4 : zx - w < p
        · rw [if_pos h4]
        · rw [if_neg h4]
          by_cases h5 : q ≤ zy - w
          · exact absurd ⟨⟨h1, h3, i_le h4⟩, h2, h3, h5⟩ h
          · rw [if_neg h5]
theorem cp_good {α : Type} {p q w zx zy : Int32} {a b : α} (h : (¬ p < 0 ∧ ¬ w < 0 ∧ p ≤ zx - w) ∧ (¬ q < 0 ∧ ¬ w < 0 ∧ q ≤ zy - w)) : (if p < 0 then a else if q < 0 then a else if w < 0 then a else if zx - w < p then a else if q ≤ zy - w then b else a) = b := by
  rw [if_neg h.1.1, if_neg h.2.1, if_neg h.1.2.1, if_neg (i_nlt2 h.1.2.2), if_pos h.2.2.2]
set_option maxRecDepth 100000 in
set_option maxHeartbeats 4000000 in
theorem c6_copy (l : Launch) (E : Ex) (S : Sx) (im : Mem) (B : Nat) (hC : CL S B) (so sz ce : Nat → Int32) (hsh : SHS im B so sz ce) (x p y q w : Int32) : Mt l E yX6_copy cX6_copy 8 (some .int) 3 0 0 [.ref B, .int x, .int p, .int y, .int q, .int w] S im (pI (pQ S (r_copy x p y q w (so x.toNatClampNeg) (so y.toNatClampNeg) (sz x.toNatClampNeg) (sz y.toNatClampNeg)) (g_copyC B im x p y q w (so x.toNatClampNeg) (so y.toNatClampNeg) (sz x.toNatClampNeg) (sz y.toNatClampNeg)))) := by
  refine Mt.of (by decide +kernel) rfl rfl (Nat.le_of_ble_eq_true rfl) ?_
  intro κ hκ C ρ
  subst hκ
  show V E κ 8 0 0 0 [some (.ref B), some (.int x), some (.int p), some (.int y), some (.int q), some (.int w), none, none] [] S im
  refine z_iload_n (pc := 0) C dX6_copy_0 rfl ?_
  refine kX6_185 (pc := 1) C dX6_copy_1 (c6_isSheet κ.2.1 E S im (x)) (by decide) (Nat.le_of_ble_eq_true rfl) (Nat.le_refl _) (Nat.le_refl _) (fun v_1 S_1 im_1 h_1 => ?_)
  rcases h_1 with ⟨hb_1, rfl, rfl, rfl⟩ | ⟨hb_1, rfl, rfl, rfl⟩
  · 
    obtain ⟨s0, hs00, hs0, rfl⟩ := (rng (by decide) (by decide)).mp hb_1
    have hcs0 : (nI s0).toNatClampNeg = s0 := nI_clamp (by omega)
    obtain ⟨⟨q1s0, q2s0, q3s0⟩, ⟨zs0, hzs0, ezs0⟩, q4s0, q5s0⟩ := hsh s0 (by omega)
    refine z_if_eqF (pc := 4) C 14 dX6_copy_4 (by decide) (by decide) ?_
    refine z_iload_n (pc := 7) C dX6_copy_7 rfl ?_
    refine kX6_185 (pc := 8) C dX6_copy_8 (c6_isSheet κ.2.1 E S im (y)) (by decide) (Nat.le_of_ble_eq_true rfl) (Nat.le_refl _) (Nat.le_refl _) (fun v_8 S_8 im_8 h_8 => ?_)
    rcases h_8 with ⟨hb_8, rfl, rfl, rfl⟩ | ⟨hb_8, rfl, rfl, rfl⟩
    · 
      obtain ⟨s1, hs10, hs1, rfl⟩ := (rng (by decide) (by decide)).mp hb_8
      have hcs1 : (nI s1).toNatClampNeg = s1 := nI_clamp (by omega)
      obtain ⟨⟨q1s1, q2s1, q3s1⟩, ⟨zs1, hzs1, ezs1⟩, q4s1, q5s1⟩ := hsh s1 (by omega)
      refine z_if_neT (pc := 11) C 17 dX6_copy_11 (by decide) (by decide) ?_
      refine z_aload_n (pc := 17) C dX6_copy_17 rfl ?_
      refine gX6_31 (pc := 18) C dX6_copy_18 (cl_K hC) (cl_r5 hC) ?_
      refine z_iload_n (pc := 21) C dX6_copy_21 rfl ?_
      refine z_aald (pc := 22) C dX6_copy_22 (cl_a49 hC) (by decide) (cl_n49 hC) (by omega) (by decide) (hC.2.2.2.2.1 s0 (by omega)).1 ?_
      refine z_astore (pc := 23) C dX6_copy_23 (by decide) rfl ?_
      refine z_aload_n (pc := 25) C dX6_copy_25 rfl ?_
      refine gX6_31 (pc := 26) C dX6_copy_26 (cl_K hC) (cl_r5 hC) ?_
      refine z_iload_n (pc := 29) C dX6_copy_29 rfl ?_
      refine z_aald (pc := 30) C dX6_copy_30 (cl_a49 hC) (by decide) (cl_n49 hC) (by omega) (by decide) (hC.2.2.2.2.1 s1 (by omega)).1 ?_
      refine z_astore (pc := 31) C dX6_copy_31 (by decide) rfl ?_
      refine z_aload (pc := 33) C dX6_copy_33 rfl ?_
      refine kX6_188 (pc := 35) C dX6_copy_35 (c1_isMissing κ.2.1 E S im (B + 53 + 2 * s0) (hC.2.2.2.2.1 s0 (by omega)).2) (hC.2.2.2.2.1 s0 (by omega)).2.1 (by decide) (Nat.le_of_ble_eq_true rfl) (Nat.le_refl _) (Nat.le_refl _) (fun v_35 S_35 im_35 h_35 => ?_)
      rcases h_35 with ⟨hb_35, rfl, rfl, rfl⟩ | ⟨hb_35, rfl, rfl, rfl⟩
      · 
        rw [q1s0] at hb_35
        refine z_if_neT (pc := 38) C 49 dX6_copy_38 (by decide) (by decide) ?_
        refine z_ldc (pc := 49) C dX6_copy_49 wk_X6_192 ?_
        exact z_iret (pc := 51) C ρ dX6_copy_51 (⟨_, rfl, by rw [hcs0, hcs1, r_copy, if_pos hb_1, if_pos hb_8, if_pos (by rw [hb_35]; decide)], rfl, by rw [hcs0, hcs1, g_copyC, if_pos hb_1, if_pos hb_8, if_pos (by rw [hb_35]; decide)]⟩)
      · 
        rw [q1s0] at hb_35
        have hges0 : 0 ≤ so s0 := so_ge q4s0 hb_35
        refine z_if_neF (pc := 38) C 49 dX6_copy_38 (by decide) (by decide) ?_
        refine z_aload (pc := 41) C dX6_copy_41 rfl ?_
        refine kX6_188 (pc := 43) C dX6_copy_43 (c1_isMissing κ.2.1 E S im (B + 53 + 2 * s1) (hC.2.2.2.2.1 s1 (by omega)).2) (hC.2.2.2.2.1 s1 (by omega)).2.1 (by decide) (Nat.le_of_ble_eq_true rfl) (Nat.le_refl _) (Nat.le_refl _) (fun v_43 S_43 im_43 h_43 => ?_)
        rcases h_43 with ⟨hb_43, rfl, rfl, rfl⟩ | ⟨hb_43, rfl, rfl, rfl⟩
        · 
          rw [q1s1] at hb_43
          refine z_if_eqF (pc := 46) C 52 dX6_copy_46 (by decide) (by decide) ?_
          refine z_ldc (pc := 49) C dX6_copy_49 wk_X6_192 ?_
          exact z_iret (pc := 51) C ρ dX6_copy_51 (⟨_, rfl, by rw [hcs0, hcs1, r_copy, if_pos hb_1, if_pos hb_8, if_neg (i_nlt2 hges0), if_neg (by rw [hb_43]; decide)], rfl, by rw [hcs0, hcs1, g_copyC, if_pos hb_1, if_pos hb_8, if_neg (i_nlt2 hges0), if_neg (by rw [hb_43]; decide)]⟩)
        · 
          rw [q1s1] at hb_43
          have hges1 : 0 ≤ so s1 := so_ge q4s1 hb_43
          refine z_if_eqT (pc := 46) C 52 dX6_copy_46 (by decide) (by decide) ?_
          refine z_aload (pc := 52) C dX6_copy_52 rfl ?_
          refine gX6_260 (pc := 54) C dX6_copy_54 (hC.2.2.2.2.1 s0 (by omega)).2.1 ?_
          refine z_eqi (y := so s0) (q1s0) ?_
          refine z_aload (pc := 57) C dX6_copy_57 rfl ?_
          refine gX6_260 (pc := 59) C dX6_copy_59 (hC.2.2.2.2.1 s1 (by omega)).2.1 ?_
          refine z_eqi (y := so s1) (q1s1) ?_
          refine z_icmp_eq (pc := 62) C 68 dX6_copy_62 (by decide) (fun c_62 => ?_) (fun c_62 => ?_)
          · 
            refine z_aload (pc := 68) C dX6_copy_68 rfl ?_
            refine z_iload_n (pc := 70) C dX6_copy_70 rfl ?_
            refine z_iload (pc := 71) C dX6_copy_71 rfl ?_
            refine kX6_277 (pc := 73) C dX6_copy_73 (c1_hasPlaces κ.2.1 E S im (B + 53 + 2 * s0) (hC.2.2.2.2.1 s0 (by omega)).2 p w) (hC.2.2.2.2.1 s0 (by omega)).2.1 (by decide) (Nat.le_of_ble_eq_true rfl) (Nat.le_refl _) (Nat.le_refl _) (fun v_73 S_73 im_73 h_73 => ?_)
            rcases h_73 with ⟨hb_73, rfl, rfl, rfl⟩ | ⟨hb_73, rfl, rfl, rfl⟩
            · 
              refine z_if_eqF (pc := 76) C 91 dX6_copy_76 (by decide) (by decide) ?_
              refine z_aload (pc := 79) C dX6_copy_79 rfl ?_
              refine z_iload (pc := 81) C dX6_copy_81 rfl ?_
              refine z_iload (pc := 83) C dX6_copy_83 rfl ?_
              refine kX6_277 (pc := 85) C dX6_copy_85 (c1_hasPlaces κ.2.1 E S im (B + 53 + 2 * s1) (hC.2.2.2.2.1 s1 (by omega)).2 q w) (hC.2.2.2.2.1 s1 (by omega)).2.1 (by decide) (Nat.le_of_ble_eq_true rfl) (Nat.le_refl _) (Nat.le_refl _) (fun v_85 S_85 im_85 h_85 => ?_)
              rcases h_85 with ⟨hb_85, rfl, rfl, rfl⟩ | ⟨hb_85, rfl, rfl, rfl⟩
              · 
                have hA := (cp_iff hzs0).mp (by rw [q2s0, ezs0] at hb_73; exact hb_73)
                have hA2 := (cp_iff hzs1).mp (by rw [q2s1, ezs1] at hb_85; exact hb_85)
                obtain ⟨p0, w0, rfl, rfl, hpw⟩ := cp_rng hzs0 hA.1 hA.2.1 hA.2.2
                obtain ⟨q0, w1, rfl, ew, hqw⟩ := cp_rng hzs1 hA2.1 hA2.2.1 hA2.2.2
                have ew2 : w0 = w1 := (nI_eq (by omega) (by have := hzs1; omega)).mp ew
                refine z_if_neT (pc := 88) C 95 dX6_copy_88 (by decide) (by decide) ?_
                refine z_aload (pc := 95) C dX6_copy_95 rfl ?_
                refine gX6_263 (pc := 97) C dX6_copy_97 (hC.2.2.2.2.1 s0 (by omega)).2.1 (hC.2.2.2.2.1 s0 (by omega)).2.2.1 ?_
                refine z_iload_n (pc := 100) C dX6_copy_100 rfl ?_
                refine z_aload (pc := 101) C dX6_copy_101 rfl ?_
                refine gX6_263 (pc := 103) C dX6_copy_103 (hC.2.2.2.2.1 s1 (by omega)).2.1 (hC.2.2.2.2.1 s1 (by omega)).2.2.1 ?_
                refine z_iload (pc := 106) C dX6_copy_106 rfl ?_
                refine z_iload (pc := 108) C dX6_copy_108 rfl ?_
                refine z_copyi (pc := 110) C dX6_copy_110 wm_X6_281 (hC.2.2.2.2.1 s0 (by omega)).2.2.2.1 (hC.2.2.2.2.1 s0 (by omega)).2.2.2.2 (hC.2.2.2.2.1 s1 (by omega)).2.2.2.1 (hC.2.2.2.2.1 s1 (by omega)).2.2.2.2 (by omega) (by omega) (by decide) (by decide) (by decide) (Nat.le_of_ble_eq_true rfl) ?_
                refine z_iload (pc := 113) C dX6_copy_113 rfl ?_
                exact z_iret (pc := 115) C ρ dX6_copy_115 (⟨_, rfl, by rw [hcs0, hcs1, r_copy, if_pos hb_1, if_pos hb_8, if_neg (i_nlt2 hges0), if_pos hges1, if_pos c_62, cp_good (by rw [ezs0, ezs1]; exact ⟨hA, hA2⟩)], rfl, by rw [hcs0, hcs1, g_copyC, if_pos hb_1, if_pos hb_8, if_neg (i_nlt2 hges0), if_pos hges1, if_pos c_62, cp_good (by rw [ezs0, ezs1]; exact ⟨hA, hA2⟩), hcs0, hcs1, nI_clamp (by omega), nI_clamp (by omega), nI_clamp (by omega)]⟩)
              · 
                refine z_if_neF (pc := 88) C 95 dX6_copy_88 (by decide) (by decide) ?_
                refine z_ldcw (pc := 91) C dX6_copy_91 wk_X6_259 ?_
                exact z_iret (pc := 94) C ρ dX6_copy_94 (⟨_, rfl, by rw [hcs0, hcs1, r_copy, if_pos hb_1, if_pos hb_8, if_neg (i_nlt2 hges0), if_pos hges1, if_pos c_62, cp_bad (fun h => hb_85 (by rw [q2s1, ezs1]; exact (cp_iff hzs1).mpr (by rw [ezs1] at h; exact h.2)))], rfl, by rw [hcs0, hcs1, g_copyC, if_pos hb_1, if_pos hb_8, if_neg (i_nlt2 hges0), if_pos hges1, if_pos c_62, cp_bad (fun h => hb_85 (by rw [q2s1, ezs1]; exact (cp_iff hzs1).mpr (by rw [ezs1] at h; exact h.2)))]⟩)
            · 
              refine z_if_eqT (pc := 76) C 91 dX6_copy_76 (by decide) (by decide) ?_
              refine z_ldcw (pc := 91) C dX6_copy_91 wk_X6_259 ?_
              exact z_iret (pc := 94) C ρ dX6_copy_94 (⟨_, rfl, by rw [hcs0, hcs1, r_copy, if_pos hb_1, if_pos hb_8, if_neg (i_nlt2 hges0), if_pos hges1, if_pos c_62, cp_bad (fun h => hb_73 (by rw [q2s0, ezs0]; exact (cp_iff hzs0).mpr (by rw [ezs0] at h; exact h.1)))], rfl, by rw [hcs0, hcs1, g_copyC, if_pos hb_1, if_pos hb_8, if_neg (i_nlt2 hges0), if_pos hges1, if_pos c_62, cp_bad (fun h => hb_73 (by rw [q2s0, ezs0]; exact (cp_iff hzs0).mpr (by rw [ezs0] at h; exact h.1)))]⟩)
          · 
            refine z_ldc (pc := 65) C dX6_copy_65 wk_X6_101 ?_
            exact z_iret (pc := 67) C ρ dX6_copy_67 (⟨_, rfl, by rw [hcs0, hcs1, r_copy, if_pos hb_1, if_pos hb_8, if_neg (i_nlt2 hges0), if_pos hges1, if_neg c_62], rfl, by rw [hcs0, hcs1, g_copyC, if_pos hb_1, if_pos hb_8, if_neg (i_nlt2 hges0), if_pos hges1, if_neg c_62]⟩)
    · 
      refine z_if_neF (pc := 11) C 17 dX6_copy_11 (by decide) (by decide) ?_
      refine z_ldc (pc := 14) C dX6_copy_14 wk_X6_60 ?_
      exact z_iret (pc := 16) C ρ dX6_copy_16 (⟨_, rfl, by simp only [r_copy, if_pos hb_1, if_neg hb_8], rfl, by simp only [g_copyC, if_pos hb_1, if_neg hb_8]⟩)
  · 
    refine z_if_eqT (pc := 4) C 14 dX6_copy_4 (by decide) (by decide) ?_
    refine z_ldc (pc := 14) C dX6_copy_14 wk_X6_60 ?_
    exact z_iret (pc := 16) C ρ dX6_copy_16 (⟨_, rfl, by simp only [r_copy, if_neg hb_1], rfl, by simp only [g_copyC, if_neg hb_1]⟩)
/-- the class's slots hold these numbers -/
def SLS (im : Mem) (B : Nat) (th sa sb hc : Nat → Int32) : Prop := ∀ s, s < 5 → im (B + 61 + 4 * s) 0 = th s ∧ (th s = nI 1 → im (B + 61 + 4 * s + 1) 0 = sa s ∧ inR 0 5 (sa s) ∧ inR 0 99 (im (B + 61 + 4 * s + 1) 1) ∧ sb s = s_worth (sa s) (im (B + 61 + 4 * s + 1) 1)) ∧ (th s = nI 2 → im (B + 61 + 4 * s + 2) 1 = sa s ∧ (∃ z, z ≤ 24 ∧ sa s = nI z) ∧ ∀ j, j < 24 → im (B + 61 + 4 * s + 2 + 1) j = hc (24 * s + j)) ∧ (th s = nI 3 → im (B + 61 + 4 * s) 3 = sa s)
set_option maxRecDepth 100000 in
set_option maxHeartbeats 4000000 in
theorem c6_canLay (l : Launch) (E : Ex) (S : Sx) (im : Mem) (B : Nat) (hC : CL S B) (n : Nat) (hn10 : n ≤ 10) (hcn : im (B + 1) 1 = nI n) (k x : Int32) : Mt l E yX6_canLay cX6_canLay 3 (some .boolean) 3 0 0 [.ref B, .int k, .int x] S im (pI (pB S im (if k = nI 1 then lmp n x else if k = nI 2 then isSh x else True))) := by
  refine Mt.of (by decide +kernel) rfl rfl (Nat.le_of_ble_eq_true rfl) ?_
  intro κ hκ C ρ
  subst hκ
  show V E κ 3 0 0 0 [some (.ref B), some (.int k), some (.int x)] [] S im
  refine z_iload_n (pc := 0) C dX6_canLay_0 rfl ?_
  by_cases hs_1 : k = nI 1
  · 
    refine z_eqi (y := nI 1) hs_1 ?_
    refine z_lookup (off := 27) (pc := 1) C 28 dX6_canLay_1 (by decide +kernel) (by decide +kernel) (by decide) ?_
    refine z_aload_n (pc := 28) C dX6_canLay_28 rfl ?_
    refine gX6_10 (pc := 29) C dX6_canLay_29 (cl_K hC) (cl_r0 hC) ?_
    refine z_iload_n (pc := 32) C dX6_canLay_32 rfl ?_
    refine kX6_70 (pc := 33) C dX6_canLay_33 (c3_hasLamp κ.2.1 E S im (B + 1) (cl_s1 hC) x n hn10 hcn) (sl_K (cl_s1 hC)) (by decide) (Nat.le_of_ble_eq_true rfl) (Nat.le_refl _) (Nat.le_refl _) (fun v_33 S_33 im_33 h_33 => ?_)
    rcases h_33 with ⟨hb_33, rfl, rfl, rfl⟩ | ⟨hb_33, rfl, rfl, rfl⟩
    · 
      exact z_zret (pc := 36) C ρ dX6_canLay_36 (by decide) (⟨_, rfl, Or.inl ⟨by rw [if_pos hs_1]; exact hb_33, rfl, rfl, rfl⟩⟩)
    · 
      exact z_zret (pc := 36) C ρ dX6_canLay_36 (by decide) (⟨_, rfl, Or.inr ⟨by rw [if_pos hs_1]; exact hb_33, rfl, rfl, rfl⟩⟩)
  by_cases hs_2 : k = nI 2
  · 
    refine z_eqi (y := nI 2) hs_2 ?_
    refine z_lookup (off := 36) (pc := 1) C 37 dX6_canLay_1 (by decide +kernel) (by decide +kernel) (by decide) ?_
    refine z_iload_n (pc := 37) C dX6_canLay_37 rfl ?_
    refine kX6_185 (pc := 38) C dX6_canLay_38 (c6_isSheet κ.2.1 E S im x) (by decide) (Nat.le_of_ble_eq_true rfl) (Nat.le_refl _) (Nat.le_refl _) (fun v_38 S_38 im_38 h_38 => ?_)
    rcases h_38 with ⟨hb_38, rfl, rfl, rfl⟩ | ⟨hb_38, rfl, rfl, rfl⟩
    · 
      exact z_zret (pc := 41) C ρ dX6_canLay_41 (by decide) (⟨_, rfl, Or.inl ⟨by rw [if_neg hs_1, if_pos hs_2]; exact hb_38, rfl, rfl, rfl⟩⟩)
    · 
      exact z_zret (pc := 41) C ρ dX6_canLay_41 (by decide) (⟨_, rfl, Or.inr ⟨by rw [if_neg hs_1, if_pos hs_2]; exact hb_38, rfl, rfl, rfl⟩⟩)
  refine z_lookup (pc := 1) C 42 dX6_canLay_1 (by decide +kernel) (off := 41) (by show Op.lookupswitch.offset [(1, 27), (2, 36)] 41 _ = _; rw [lv_osw hs_1 (show (nI 1 : Int32).toInt = 1 by decide), lv_osw hs_2 (show (nI 2 : Int32).toInt = 2 by decide)]; rfl) (by decide) ?_
  refine z_iconstN (pc := 42) C 1 dX6_canLay_42 ?_
  exact z_zret (pc := 43) C ρ dX6_canLay_43 (by decide) (⟨_, rfl, Or.inl ⟨by rw [if_neg hs_1, if_neg hs_2]; trivial, rfl, rfl, rfl⟩⟩)
def lyA (B : Nat) (im : Mem) (s : Nat) (k : Int32) (l0 : Nat) (im' : Mem) : Prop := im' (B + 61 + 4 * s) = upd (im (B + 61 + 4 * s)) 0 k ∧ (∀ j, im' (B + 61 + 4 * s + 1) j = if j < 7 then im (B + 1 + 5 + l0) j else im (B + 61 + 4 * s + 1) j) ∧ ∀ a, a ≠ B + 61 + 4 * s → a ≠ B + 61 + 4 * s + 1 → im' a = im a
def lyB (B : Nat) (im : Mem) (s : Nat) (k : Int32) (s1 : Nat) (im' : Mem) : Prop := im' (B + 61 + 4 * s) = upd (im (B + 61 + 4 * s)) 0 k ∧ im' (B + 61 + 4 * s + 2) 1 = im (B + 53 + 2 * s1) 1 ∧ (∀ j, j < 24 → im' (B + 61 + 4 * s + 2 + 1) j = im (B + 53 + 2 * s1 + 1) j) ∧ ∀ a, a ≠ B + 61 + 4 * s → a ≠ B + 61 + 4 * s + 2 → a ≠ B + 61 + 4 * s + 2 + 1 → im' a = im a
def g_layC (B : Nat) (im : Mem) (n : Nat) (x k y so : Int32) (im' : Mem) : Prop := if isSl x then (if nI 0 ≤ k ∧ k ≤ nI 3 then (if k = nI 1 then (if lmp n y then lyA B im x.toNatClampNeg k y.toNatClampNeg im' else im' = im) else if k = nI 2 then (if isSh y then (if 0 ≤ so then lyB B im x.toNatClampNeg k y.toNatClampNeg im' else im' = im) else im' = im) else im' = up2 (up2 im (B + 61 + 4 * x.toNatClampNeg) 0 k) (B + 61 + 4 * x.toNatClampNeg) 3 y) else im' = im) else im' = im
theorem lay_bad {n : Nat} {x k y t s : Int32} {B : Nat} {im : Mem} (h1 : isSl x) (h2 : nI 0 ≤ k ∧ k ≤ nI 3) (h : ¬ (if k = nI 1 then lmp n y else if k = nI 2 then isSh y else True)) : r_lay n x k y t s = -1000000001 ∧ g_layC B im n x k y s im := by
  rw [r_lay, g_layC, if_pos h1, if_pos h2, if_pos h1, if_pos h2]
  by_cases e1 : k = nI 1
  · rw [if_pos e1] at h ⊢
    rw [if_pos e1, if_neg h, if_neg h]
    exact ⟨rfl, rfl⟩
  · rw [if_neg e1] at h ⊢
    rw [if_neg e1]
    by_cases e2 : k = nI 2
    · rw [if_pos e2] at h ⊢
      rw [if_pos e2, if_neg h, if_neg h]
      exact ⟨rfl, rfl⟩
    · rw [if_neg e2] at h
      exact absurd trivial h
set_option maxRecDepth 100000 in
set_option maxHeartbeats 4000000 in
theorem c6_lay (l : Launch) (E : Ex) (S : Sx) (im : Mem) (B : Nat) (hC : CL S B) (n : Nat) (hn10 : n ≤ 10) (hcn : im (B + 1) 1 = nI n) (so sz ce : Nat → Int32) (hsh : SHS im B so sz ce) (th sa sb hc : Nat → Int32) (hsl : SLS im B th sa sb hc) (x k y : Int32) : Mt l E yX6_lay cX6_lay 6 (some .int) 4 0 0 [.ref B, .int x, .int k, .int y] S im (pI (pQ S (r_lay n x k y (th x.toNatClampNeg) (so y.toNatClampNeg)) (g_layC B im n x k y (so y.toNatClampNeg)))) := by
  refine Mt.of (by decide +kernel) rfl rfl (Nat.le_of_ble_eq_true rfl) ?_
  intro κ hκ C ρ
  subst hκ
  show V E κ 6 0 0 0 [some (.ref B), some (.int x), some (.int k), some (.int y), none, none] [] S im
  by_cases hk1 : k = nI 1
  · subst hk1
    refine z_iload_n (pc := 0) C dX6_lay_0 rfl ?_
    refine kX6_287 (pc := 1) C dX6_lay_1 (c6_isSlot κ.2.1 E S im (x)) (by decide) (Nat.le_of_ble_eq_true rfl) (Nat.le_refl _) (Nat.le_refl _) (fun v_1 S_1 im_1 h_1 => ?_)
    rcases h_1 with ⟨hb_1, rfl, rfl, rfl⟩ | ⟨hb_1, rfl, rfl, rfl⟩
    · 
      obtain ⟨t0, ht00, ht0, rfl⟩ := (rng (by decide) (by decide)).mp hb_1
      have hct0 : (nI t0).toNatClampNeg = t0 := nI_clamp (by omega)
      obtain ⟨u1, u2, u3, u4⟩ := hsl t0 (by omega)
      refine z_if_eqF (pc := 4) C 25 dX6_lay_4 (by decide) (by decide) ?_
      refine z_iload_n (pc := 7) C dX6_lay_7 rfl ?_
      refine z_iconstN (pc := 8) C 0 dX6_lay_8 ?_
      refine z_iconstN (pc := 9) C 3 dX6_lay_9 ?_
      refine kX6_56 (pc := 10) C dX6_lay_10 (c6_within κ.2.1 E S im (nI 1) (nI 0) (nI 3)) (by decide) (Nat.le_of_ble_eq_true rfl) (Nat.le_refl _) (Nat.le_refl _) (fun v_10 S_10 im_10 h_10 => ?_)
      rcases h_10 with ⟨hb_10, rfl, rfl, rfl⟩ | ⟨hb_10, rfl, rfl, rfl⟩
      · 
        refine z_if_eqF (pc := 13) C 25 dX6_lay_13 (by decide) (by decide) ?_
        refine z_aload_n (pc := 16) C dX6_lay_16 rfl ?_
        refine z_iload_n (pc := 17) C dX6_lay_17 rfl ?_
        refine z_iload_n (pc := 18) C dX6_lay_18 rfl ?_
        refine kX6_290 (pc := 19) C dX6_lay_19 (c6_canLay κ.2.1 E S im B hC n hn10 hcn (nI 1) y) (cl_K hC) (by decide) (Nat.le_of_ble_eq_true rfl) (Nat.le_refl _) (Nat.le_refl _) (fun v_19 S_19 im_19 h_19 => ?_)
        rcases h_19 with ⟨hb_19, rfl, rfl, rfl⟩ | ⟨hb_19, rfl, rfl, rfl⟩
        · 
          rw [if_pos rfl] at hb_19
          obtain ⟨l0, hl0, rfl⟩ := (in_lamp hn10).mp hb_19
          have hcl : (nI l0).toNatClampNeg = l0 := nI_clamp (by omega)
          refine z_if_neT (pc := 22) C 28 dX6_lay_22 (by decide) (by decide) ?_
          refine z_iload_n (pc := 28) C dX6_lay_28 rfl ?_
          refine z_iconstN (pc := 29) C 2 dX6_lay_29 ?_
          refine z_icmp_neT (pc := 30) C 48 dX6_lay_30 (by decide) (by decide) ?_
          refine z_aload_n (pc := 48) C dX6_lay_48 rfl ?_
          refine gX6_37 (pc := 49) C dX6_lay_49 (cl_K hC) (cl_r6 hC) ?_
          refine z_iload_n (pc := 52) C dX6_lay_52 rfl ?_
          refine z_aald (pc := 53) C dX6_lay_53 (cl_a50 hC) (by decide) (cl_n50 hC) (by omega) (by decide) (hC.2.2.2.2.2 t0 (by omega)).1 ?_
          refine z_astore (pc := 54) C dX6_lay_54 (by decide) rfl ?_
          refine z_aload (pc := 56) C dX6_lay_56 rfl ?_
          refine gX6_293 (pc := 58) C dX6_lay_58 (hC.2.2.2.2.2 t0 (by omega)).2.1 ?_
          refine z_eqi (y := th t0) (u1) ?_
          refine z_istore (pc := 61) C dX6_lay_61 (by decide) rfl ?_
          refine z_aload (pc := 63) C dX6_lay_63 rfl ?_
          refine z_iload_n (pc := 65) C dX6_lay_65 rfl ?_
          refine pX6_293 (pc := 66) C dX6_lay_66 (hC.2.2.2.2.2 t0 (by omega)).2.1 ?_
          refine z_iload_n (pc := 69) C dX6_lay_69 rfl ?_
          refine z_iconstN (pc := 70) C 1 dX6_lay_70 ?_
          refine z_icmp_neF (pc := 71) C 94 dX6_lay_71 (by decide) (by decide) ?_
          refine z_aload (pc := 74) C dX6_lay_74 rfl ?_
          refine gX6_296 (pc := 76) C dX6_lay_76 (hC.2.2.2.2.2 t0 (by omega)).2.1 (hC.2.2.2.2.2 t0 (by omega)).2.2.1 ?_
          refine z_aload_n (pc := 79) C dX6_lay_79 rfl ?_
          refine gX6_10 (pc := 80) C dX6_lay_80 (cl_K hC) (cl_r0 hC) ?_
          refine gX6_73 (pc := 83) C dX6_lay_83 (sl_K (cl_s1 hC)) (sl_r0 (cl_s1 hC)) ?_
          refine z_iload_n (pc := 86) C dX6_lay_86 rfl ?_
          refine z_aald (pc := 87) C dX6_lay_87 (sl_a1 (cl_s1 hC)) (by decide) (sl_n1 (cl_s1 hC)) (by omega) (by decide) (sl_e (cl_s1 hC) (i := l0) (by omega)) ?_
          refine kX6_300 (pc := 88) C dX6_lay_88 (c0_becomes κ.2.1 E S _ (B + 61 + 4 * t0 + 1) (hC.2.2.2.2.2 t0 (by omega)).2.2.2.2.1 (B + 1 + 5 + l0) (sl_l (cl_s1 hC) (by omega)) (by omega)) (hC.2.2.2.2.2 t0 (by omega)).2.2.2.2.1 (by decide) (Nat.le_of_ble_eq_true rfl) (Nat.le_refl _) (Nat.le_refl _) (fun S_88 im_88 h_88 => ?_)
          obtain ⟨rfl, g1, g2⟩ := h_88
          refine z_goto (pc := 91) C 122 dX6_lay_91 (by decide) ?_
          refine z_iload (pc := 122) C dX6_lay_122 rfl ?_
          exact z_iret (pc := 124) C ρ dX6_lay_124 (⟨_, rfl, by rw [hct0, r_lay, if_pos hb_1, if_pos hb_10, if_pos rfl, if_pos hb_19], rfl, by rw [g_layC, if_pos hb_1, if_pos hb_10, if_pos rfl, if_pos hb_19, hct0, hcl]; exact ⟨by rw [g2 _ (by omega), up2_s], fun j => by rw [g1 j, up2_n _ _ _ (by omega), up2_n _ _ _ (by omega)], fun a h1 h2 => by rw [g2 a h2, up2_n _ _ _ h1]⟩⟩)
        · 
          refine z_if_neF (pc := 22) C 28 dX6_lay_22 (by decide) (by decide) ?_
          refine z_ldc (pc := 25) C dX6_lay_25 wk_X6_60 ?_
          exact z_iret (pc := 27) C ρ dX6_lay_27 (⟨_, rfl, (lay_bad (t := th (nI t0).toNatClampNeg) (s := so y.toNatClampNeg) (B := B) (im := im) hb_1 hb_10 hb_19).1, rfl, (lay_bad (t := th (nI t0).toNatClampNeg) (s := so y.toNatClampNeg) (B := B) (im := im) hb_1 hb_10 hb_19).2⟩)
      · 
        refine z_if_eqT (pc := 13) C 25 dX6_lay_13 (by decide) (by decide) ?_
        refine z_ldc (pc := 25) C dX6_lay_25 wk_X6_60 ?_
        exact z_iret (pc := 27) C ρ dX6_lay_27 (⟨_, rfl, by simp only [r_lay, if_pos hb_1, if_neg hb_10], rfl, by simp only [g_layC, if_pos hb_1, if_neg hb_10]⟩)
    · 
      refine z_if_eqT (pc := 4) C 25 dX6_lay_4 (by decide) (by decide) ?_
      refine z_ldc (pc := 25) C dX6_lay_25 wk_X6_60 ?_
      exact z_iret (pc := 27) C ρ dX6_lay_27 (⟨_, rfl, by simp only [r_lay, if_neg hb_1], rfl, by simp only [g_layC, if_neg hb_1]⟩)
  · by_cases hk2 : k = nI 2
    · subst hk2
      refine z_iload_n (pc := 0) C dX6_lay_0 rfl ?_
      refine kX6_287 (pc := 1) C dX6_lay_1 (c6_isSlot κ.2.1 E S im (x)) (by decide) (Nat.le_of_ble_eq_true rfl) (Nat.le_refl _) (Nat.le_refl _) (fun v_1 S_1 im_1 h_1 => ?_)
      rcases h_1 with ⟨hb_1, rfl, rfl, rfl⟩ | ⟨hb_1, rfl, rfl, rfl⟩
      · 
        obtain ⟨t0, ht00, ht0, rfl⟩ := (rng (by decide) (by decide)).mp hb_1
        have hct0 : (nI t0).toNatClampNeg = t0 := nI_clamp (by omega)
        obtain ⟨u1, u2, u3, u4⟩ := hsl t0 (by omega)
        refine z_if_eqF (pc := 4) C 25 dX6_lay_4 (by decide) (by decide) ?_
        refine z_iload_n (pc := 7) C dX6_lay_7 rfl ?_
        refine z_iconstN (pc := 8) C 0 dX6_lay_8 ?_
        refine z_iconstN (pc := 9) C 3 dX6_lay_9 ?_
        refine kX6_56 (pc := 10) C dX6_lay_10 (c6_within κ.2.1 E S im (nI 2) (nI 0) (nI 3)) (by decide) (Nat.le_of_ble_eq_true rfl) (Nat.le_refl _) (Nat.le_refl _) (fun v_10 S_10 im_10 h_10 => ?_)
        rcases h_10 with ⟨hb_10, rfl, rfl, rfl⟩ | ⟨hb_10, rfl, rfl, rfl⟩
        · 
          refine z_if_eqF (pc := 13) C 25 dX6_lay_13 (by decide) (by decide) ?_
          refine z_aload_n (pc := 16) C dX6_lay_16 rfl ?_
          refine z_iload_n (pc := 17) C dX6_lay_17 rfl ?_
          refine z_iload_n (pc := 18) C dX6_lay_18 rfl ?_
          refine kX6_290 (pc := 19) C dX6_lay_19 (c6_canLay κ.2.1 E S im B hC n hn10 hcn (nI 2) y) (cl_K hC) (by decide) (Nat.le_of_ble_eq_true rfl) (Nat.le_refl _) (Nat.le_refl _) (fun v_19 S_19 im_19 h_19 => ?_)
          rcases h_19 with ⟨hb_19, rfl, rfl, rfl⟩ | ⟨hb_19, rfl, rfl, rfl⟩
          · 
            rw [if_neg (by decide), if_pos rfl] at hb_19
            obtain ⟨s1, hs10, hs1, rfl⟩ := (rng (by decide) (by decide)).mp hb_19
            have hcs1 : (nI s1).toNatClampNeg = s1 := nI_clamp (by omega)
            obtain ⟨⟨q1s1, q2s1, q3s1⟩, ⟨zs1, hzs1, ezs1⟩, q4s1, q5s1⟩ := hsh s1 (by omega)
            refine z_if_neT (pc := 22) C 28 dX6_lay_22 (by decide) (by decide) ?_
            refine z_iload_n (pc := 28) C dX6_lay_28 rfl ?_
            refine z_iconstN (pc := 29) C 2 dX6_lay_29 ?_
            refine z_icmp_neF (pc := 30) C 48 dX6_lay_30 (by decide) (by decide) ?_
            refine z_aload_n (pc := 33) C dX6_lay_33 rfl ?_
            refine gX6_31 (pc := 34) C dX6_lay_34 (cl_K hC) (cl_r5 hC) ?_
            refine z_iload_n (pc := 37) C dX6_lay_37 rfl ?_
            refine z_aald (pc := 38) C dX6_lay_38 (cl_a49 hC) (by decide) (cl_n49 hC) (by omega) (by decide) (hC.2.2.2.2.1 s1 (by omega)).1 ?_
            refine kX6_188 (pc := 39) C dX6_lay_39 (c1_isMissing κ.2.1 E S im (B + 53 + 2 * s1) (hC.2.2.2.2.1 s1 (by omega)).2) (hC.2.2.2.2.1 s1 (by omega)).2.1 (by decide) (Nat.le_of_ble_eq_true rfl) (Nat.le_refl _) (Nat.le_refl _) (fun v_39 S_39 im_39 h_39 => ?_)
            rcases h_39 with ⟨hb_39, rfl, rfl, rfl⟩ | ⟨hb_39, rfl, rfl, rfl⟩
            · 
              rw [q1s1] at hb_39
              refine z_if_eqF (pc := 42) C 48 dX6_lay_42 (by decide) (by decide) ?_
              refine z_ldc (pc := 45) C dX6_lay_45 wk_X6_192 ?_
              exact z_iret (pc := 47) C ρ dX6_lay_47 (⟨_, rfl, by rw [hcs1, r_lay, if_pos hb_1, if_pos hb_10, if_neg (by decide), if_pos rfl, if_pos hb_19, if_neg (by rw [hb_39]; decide)], rfl, by rw [hcs1, g_layC, if_pos hb_1, if_pos hb_10, if_neg (by decide), if_pos rfl, if_pos hb_19, if_neg (by rw [hb_39]; decide)]⟩)
            · 
              rw [q1s1] at hb_39
              have hges1 : 0 ≤ so s1 := so_ge q4s1 hb_39
              refine z_if_eqT (pc := 42) C 48 dX6_lay_42 (by decide) (by decide) ?_
              refine z_aload_n (pc := 48) C dX6_lay_48 rfl ?_
              refine gX6_37 (pc := 49) C dX6_lay_49 (cl_K hC) (cl_r6 hC) ?_
              refine z_iload_n (pc := 52) C dX6_lay_52 rfl ?_
              refine z_aald (pc := 53) C dX6_lay_53 (cl_a50 hC) (by decide) (cl_n50 hC) (by omega) (by decide) (hC.2.2.2.2.2 t0 (by omega)).1 ?_
              refine z_astore (pc := 54) C dX6_lay_54 (by decide) rfl ?_
              refine z_aload (pc := 56) C dX6_lay_56 rfl ?_
              refine gX6_293 (pc := 58) C dX6_lay_58 (hC.2.2.2.2.2 t0 (by omega)).2.1 ?_
              refine z_eqi (y := th t0) (u1) ?_
              refine z_istore (pc := 61) C dX6_lay_61 (by decide) rfl ?_
              refine z_aload (pc := 63) C dX6_lay_63 rfl ?_
              refine z_iload_n (pc := 65) C dX6_lay_65 rfl ?_
              refine pX6_293 (pc := 66) C dX6_lay_66 (hC.2.2.2.2.2 t0 (by omega)).2.1 ?_
              refine z_iload_n (pc := 69) C dX6_lay_69 rfl ?_
              refine z_iconstN (pc := 70) C 1 dX6_lay_70 ?_
              refine z_icmp_neT (pc := 71) C 94 dX6_lay_71 (by decide) (by decide) ?_
              refine z_iload_n (pc := 94) C dX6_lay_94 rfl ?_
              refine z_iconstN (pc := 95) C 2 dX6_lay_95 ?_
              refine z_icmp_neF (pc := 96) C 116 dX6_lay_96 (by decide) (by decide) ?_
              refine z_aload (pc := 99) C dX6_lay_99 rfl ?_
              refine gX6_303 (pc := 101) C dX6_lay_101 (hC.2.2.2.2.2 t0 (by omega)).2.1 (hC.2.2.2.2.2 t0 (by omega)).2.2.2.1 ?_
              refine z_aload_n (pc := 104) C dX6_lay_104 rfl ?_
              refine gX6_31 (pc := 105) C dX6_lay_105 (cl_K hC) (cl_r5 hC) ?_
              refine z_iload_n (pc := 108) C dX6_lay_108 rfl ?_
              refine z_aald (pc := 109) C dX6_lay_109 (cl_a49 hC) (by decide) (cl_n49 hC) (by omega) (by decide) (hC.2.2.2.2.1 s1 (by omega)).1 ?_
              refine kX6_307 (pc := 110) C dX6_lay_110 (c1_becomes κ.2.1 E S _ (B + 61 + 4 * t0 + 2) (hC.2.2.2.2.2 t0 (by omega)).2.2.2.2.2 (B + 53 + 2 * s1) (hC.2.2.2.2.1 s1 (by omega)).2 (by omega)) (hC.2.2.2.2.2 t0 (by omega)).2.2.2.2.2.1 (by decide) (Nat.le_of_ble_eq_true rfl) (Nat.le_refl _) (Nat.le_refl _) (fun S_110 im_110 h_110 => ?_)
              obtain ⟨rfl, g1, g2, g3⟩ := h_110
              refine z_goto (pc := 113) C 122 dX6_lay_113 (by decide) ?_
              refine z_iload (pc := 122) C dX6_lay_122 rfl ?_
              exact z_iret (pc := 124) C ρ dX6_lay_124 (⟨_, rfl, by rw [hct0, hcs1, r_lay, if_pos hb_1, if_pos hb_10, if_neg (by decide), if_pos rfl, if_pos hb_19, if_pos hges1], rfl, by rw [hcs1, g_layC, if_pos hb_1, if_pos hb_10, if_neg (by decide), if_pos rfl, if_pos hb_19, if_pos hges1, hct0, hcs1]; exact ⟨by rw [g3 _ (by omega) (by omega), up2_s], by rw [g1, upd_s, up2_n _ _ _ (by omega)], fun j hj => by rw [g2 j, if_pos hj, up2_n _ _ _ (by omega)], fun a h1 h2 h3 => by rw [g3 a h2 h3, up2_n _ _ _ h1]⟩⟩)
          · 
            refine z_if_neF (pc := 22) C 28 dX6_lay_22 (by decide) (by decide) ?_
            refine z_ldc (pc := 25) C dX6_lay_25 wk_X6_60 ?_
            exact z_iret (pc := 27) C ρ dX6_lay_27 (⟨_, rfl, (lay_bad (t := th (nI t0).toNatClampNeg) (s := so y.toNatClampNeg) (B := B) (im := im) hb_1 hb_10 hb_19).1, rfl, (lay_bad (t := th (nI t0).toNatClampNeg) (s := so y.toNatClampNeg) (B := B) (im := im) hb_1 hb_10 hb_19).2⟩)
        · 
          refine z_if_eqT (pc := 13) C 25 dX6_lay_13 (by decide) (by decide) ?_
          refine z_ldc (pc := 25) C dX6_lay_25 wk_X6_60 ?_
          exact z_iret (pc := 27) C ρ dX6_lay_27 (⟨_, rfl, by simp only [r_lay, if_pos hb_1, if_neg hb_10], rfl, by simp only [g_layC, if_pos hb_1, if_neg hb_10]⟩)
      · 
        refine z_if_eqT (pc := 4) C 25 dX6_lay_4 (by decide) (by decide) ?_
        refine z_ldc (pc := 25) C dX6_lay_25 wk_X6_60 ?_
        exact z_iret (pc := 27) C ρ dX6_lay_27 (⟨_, rfl, by simp only [r_lay, if_neg hb_1], rfl, by simp only [g_layC, if_neg hb_1]⟩)
    · refine z_iload_n (pc := 0) C dX6_lay_0 rfl ?_
      refine kX6_287 (pc := 1) C dX6_lay_1 (c6_isSlot κ.2.1 E S im (x)) (by decide) (Nat.le_of_ble_eq_true rfl) (Nat.le_refl _) (Nat.le_refl _) (fun v_1 S_1 im_1 h_1 => ?_)
      rcases h_1 with ⟨hb_1, rfl, rfl, rfl⟩ | ⟨hb_1, rfl, rfl, rfl⟩
      · 
        obtain ⟨t0, ht00, ht0, rfl⟩ := (rng (by decide) (by decide)).mp hb_1
        have hct0 : (nI t0).toNatClampNeg = t0 := nI_clamp (by omega)
        obtain ⟨u1, u2, u3, u4⟩ := hsl t0 (by omega)
        refine z_if_eqF (pc := 4) C 25 dX6_lay_4 (by decide) (by decide) ?_
        refine z_iload_n (pc := 7) C dX6_lay_7 rfl ?_
        refine z_iconstN (pc := 8) C 0 dX6_lay_8 ?_
        refine z_iconstN (pc := 9) C 3 dX6_lay_9 ?_
        refine kX6_56 (pc := 10) C dX6_lay_10 (c6_within κ.2.1 E S im (k) (nI 0) (nI 3)) (by decide) (Nat.le_of_ble_eq_true rfl) (Nat.le_refl _) (Nat.le_refl _) (fun v_10 S_10 im_10 h_10 => ?_)
        rcases h_10 with ⟨hb_10, rfl, rfl, rfl⟩ | ⟨hb_10, rfl, rfl, rfl⟩
        · 
          refine z_if_eqF (pc := 13) C 25 dX6_lay_13 (by decide) (by decide) ?_
          refine z_aload_n (pc := 16) C dX6_lay_16 rfl ?_
          refine z_iload_n (pc := 17) C dX6_lay_17 rfl ?_
          refine z_iload_n (pc := 18) C dX6_lay_18 rfl ?_
          refine kX6_290 (pc := 19) C dX6_lay_19 (c6_canLay κ.2.1 E S im B hC n hn10 hcn (k) y) (cl_K hC) (by decide) (Nat.le_of_ble_eq_true rfl) (Nat.le_refl _) (Nat.le_refl _) (fun v_19 S_19 im_19 h_19 => ?_)
          rcases h_19 with ⟨hb_19, rfl, rfl, rfl⟩ | ⟨hb_19, rfl, rfl, rfl⟩
          · 
            refine z_if_neT (pc := 22) C 28 dX6_lay_22 (by decide) (by decide) ?_
            refine z_iload_n (pc := 28) C dX6_lay_28 rfl ?_
            refine z_iconstN (pc := 29) C 2 dX6_lay_29 ?_
            refine z_icmp_neT (pc := 30) C 48 dX6_lay_30 (by decide) (hk2) ?_
            refine z_aload_n (pc := 48) C dX6_lay_48 rfl ?_
            refine gX6_37 (pc := 49) C dX6_lay_49 (cl_K hC) (cl_r6 hC) ?_
            refine z_iload_n (pc := 52) C dX6_lay_52 rfl ?_
            refine z_aald (pc := 53) C dX6_lay_53 (cl_a50 hC) (by decide) (cl_n50 hC) (by omega) (by decide) (hC.2.2.2.2.2 t0 (by omega)).1 ?_
            refine z_astore (pc := 54) C dX6_lay_54 (by decide) rfl ?_
            refine z_aload (pc := 56) C dX6_lay_56 rfl ?_
            refine gX6_293 (pc := 58) C dX6_lay_58 (hC.2.2.2.2.2 t0 (by omega)).2.1 ?_
            refine z_eqi (y := th t0) (u1) ?_
            refine z_istore (pc := 61) C dX6_lay_61 (by decide) rfl ?_
            refine z_aload (pc := 63) C dX6_lay_63 rfl ?_
            refine z_iload_n (pc := 65) C dX6_lay_65 rfl ?_
            refine pX6_293 (pc := 66) C dX6_lay_66 (hC.2.2.2.2.2 t0 (by omega)).2.1 ?_
            refine z_iload_n (pc := 69) C dX6_lay_69 rfl ?_
            refine z_iconstN (pc := 70) C 1 dX6_lay_70 ?_
            refine z_icmp_neT (pc := 71) C 94 dX6_lay_71 (by decide) (hk1) ?_
            refine z_iload_n (pc := 94) C dX6_lay_94 rfl ?_
            refine z_iconstN (pc := 95) C 2 dX6_lay_95 ?_
            refine z_icmp_neT (pc := 96) C 116 dX6_lay_96 (by decide) (hk2) ?_
            refine z_aload (pc := 116) C dX6_lay_116 rfl ?_
            refine z_iload_n (pc := 118) C dX6_lay_118 rfl ?_
            refine pX6_310 (pc := 119) C dX6_lay_119 (hC.2.2.2.2.2 t0 (by omega)).2.1 ?_
            refine z_iload (pc := 122) C dX6_lay_122 rfl ?_
            exact z_iret (pc := 124) C ρ dX6_lay_124 (⟨_, rfl, by rw [hct0, r_lay, if_pos hb_1, if_pos hb_10, if_neg hk1, if_neg hk2], rfl, by rw [g_layC, if_pos hb_1, if_pos hb_10, if_neg hk1, if_neg hk2, hct0]⟩)
          · 
            refine z_if_neF (pc := 22) C 28 dX6_lay_22 (by decide) (by decide) ?_
            refine z_ldc (pc := 25) C dX6_lay_25 wk_X6_60 ?_
            exact z_iret (pc := 27) C ρ dX6_lay_27 (⟨_, rfl, (lay_bad (t := th (nI t0).toNatClampNeg) (s := so y.toNatClampNeg) (B := B) (im := im) hb_1 hb_10 hb_19).1, rfl, (lay_bad (t := th (nI t0).toNatClampNeg) (s := so y.toNatClampNeg) (B := B) (im := im) hb_1 hb_10 hb_19).2⟩)
        · 
          refine z_if_eqT (pc := 13) C 25 dX6_lay_13 (by decide) (by decide) ?_
          refine z_ldc (pc := 25) C dX6_lay_25 wk_X6_60 ?_
          exact z_iret (pc := 27) C ρ dX6_lay_27 (⟨_, rfl, by simp only [r_lay, if_pos hb_1, if_neg hb_10], rfl, by simp only [g_layC, if_pos hb_1, if_neg hb_10]⟩)
      · 
        refine z_if_eqT (pc := 4) C 25 dX6_lay_4 (by decide) (by decide) ?_
        refine z_ldc (pc := 25) C dX6_lay_25 wk_X6_60 ?_
        exact z_iret (pc := 27) C ρ dX6_lay_27 (⟨_, rfl, by simp only [r_lay, if_neg hb_1], rfl, by simp only [g_layC, if_neg hb_1]⟩)
set_option maxRecDepth 100000 in
set_option maxHeartbeats 4000000 in
theorem c6_ask (l : Launch) (E : Ex) (S : Sx) (im : Mem) (B : Nat) (hC : CL S B) (th sa sb hc : Nat → Int32) (hsl : SLS im B th sa sb hc) (x k : Int32) : Mt l E yX6_ask cX6_ask 4 (some .int) 3 0 0 [.ref B, .int x, .int k] S im (pI (pE S im (r_ask x k (th x.toNatClampNeg) (sa x.toNatClampNeg) (sb x.toNatClampNeg)))) := by
  refine Mt.of (by decide +kernel) rfl rfl (Nat.le_of_ble_eq_true rfl) ?_
  intro κ hκ C ρ
  subst hκ
  show V E κ 4 0 0 0 [some (.ref B), some (.int x), some (.int k), none] [] S im
  refine z_iload_n (pc := 0) C dX6_ask_0 rfl ?_
  refine kX6_287 (pc := 1) C dX6_ask_1 (c6_isSlot κ.2.1 E S im (x)) (by decide) (Nat.le_of_ble_eq_true rfl) (Nat.le_refl _) (Nat.le_refl _) (fun v_1 S_1 im_1 h_1 => ?_)
  rcases h_1 with ⟨hb_1, rfl, rfl, rfl⟩ | ⟨hb_1, rfl, rfl, rfl⟩
  · 
    obtain ⟨t0, ht00, ht0, rfl⟩ := (rng (by decide) (by decide)).mp hb_1
    have hct0 : (nI t0).toNatClampNeg = t0 := nI_clamp (by omega)
    obtain ⟨u1, u2, u3, u4⟩ := hsl t0 (by omega)
    refine z_if_eqF (pc := 4) C 14 dX6_ask_4 (by decide) (by decide) ?_
    refine z_iload_n (pc := 7) C dX6_ask_7 rfl ?_
    refine kX6_50 (pc := 8) C dX6_ask_8 (c0_isKind κ.2.1 E S im (k)) (by decide) (Nat.le_of_ble_eq_true rfl) (Nat.le_refl _) (Nat.le_refl _) (fun v_8 S_8 im_8 h_8 => ?_)
    rcases h_8 with ⟨hb_8, rfl, rfl, rfl⟩ | ⟨hb_8, rfl, rfl, rfl⟩
    · 
      obtain ⟨w0, hw00, hw0, rfl⟩ := (rng (by decide) (by decide)).mp hb_8
      refine z_if_neT (pc := 11) C 17 dX6_ask_11 (by decide) (by decide) ?_
      refine z_aload_n (pc := 17) C dX6_ask_17 rfl ?_
      refine gX6_37 (pc := 18) C dX6_ask_18 (cl_K hC) (cl_r6 hC) ?_
      refine z_iload_n (pc := 21) C dX6_ask_21 rfl ?_
      refine z_aald (pc := 22) C dX6_ask_22 (cl_a50 hC) (by decide) (cl_n50 hC) (by omega) (by decide) (hC.2.2.2.2.2 t0 (by omega)).1 ?_
      refine z_astore_n (pc := 23) C dX6_ask_23 (by decide) rfl ?_
      refine z_aload_n (pc := 24) C dX6_ask_24 rfl ?_
      refine gX6_293 (pc := 25) C dX6_ask_25 (hC.2.2.2.2.2 t0 (by omega)).2.1 ?_
      refine z_eqi (y := th t0) (u1) ?_
      refine z_if_ne (pc := 28) C 34 dX6_ask_28 (by decide) (fun c_28 => ?_) (fun c_28 => ?_)
      · 
        refine z_aload_n (pc := 34) C dX6_ask_34 rfl ?_
        refine gX6_293 (pc := 35) C dX6_ask_35 (hC.2.2.2.2.2 t0 (by omega)).2.1 ?_
        refine z_eqi (y := th t0) (u1) ?_
        refine z_iconstN (pc := 38) C 1 dX6_ask_38 ?_
        refine z_icmp_ne (pc := 39) C 63 dX6_ask_39 (by decide) (fun c_39 => ?_) (fun c_39 => ?_)
        · 
          refine z_ldc (pc := 63) C dX6_ask_63 wk_X6_101 ?_
          exact z_iret (pc := 65) C ρ dX6_ask_65 (⟨_, rfl, by rw [r_ask, if_pos hb_1, if_pos hb_8, hct0, if_neg c_28, if_neg c_39], rfl, rfl⟩)
        · 
          obtain ⟨v1, v2, v3, v4⟩ := u2 c_39
          obtain ⟨k0, hk0, ek0⟩ := inR_nI (k := 5) v2
          refine z_aload_n (pc := 42) C dX6_ask_42 rfl ?_
          refine gX6_296 (pc := 43) C dX6_ask_43 (hC.2.2.2.2.2 t0 (by omega)).2.1 (hC.2.2.2.2.2 t0 (by omega)).2.2.1 ?_
          refine z_iload_n (pc := 46) C dX6_ask_46 rfl ?_
          refine kX6_95 (pc := 47) C dX6_ask_47 (c0_isOf κ.2.1 E S im (B + 61 + 4 * t0 + 1) (hC.2.2.2.2.2 t0 (by omega)).2.2.2.2.1 k0 w0 (by omega) (by omega) (v1.trans ek0)) (hC.2.2.2.2.2 t0 (by omega)).2.2.2.2.1 (by decide) (Nat.le_of_ble_eq_true rfl) (Nat.le_refl _) (Nat.le_refl _) (fun v_47 S_47 im_47 h_47 => ?_)
          rcases h_47 with ⟨hb_47, rfl, rfl, rfl⟩ | ⟨hb_47, rfl, rfl, rfl⟩
          · 
            rw [s_under, ← ek0] at hb_47
            refine z_if_eqF (pc := 50) C 63 dX6_ask_50 (by decide) (by decide) ?_
            refine z_aload_n (pc := 53) C dX6_ask_53 rfl ?_
            refine gX6_296 (pc := 54) C dX6_ask_54 (hC.2.2.2.2.2 t0 (by omega)).2.1 (hC.2.2.2.2.2 t0 (by omega)).2.2.1 ?_
            refine kX6_85 (pc := 57) C dX6_ask_57 (c0_worth κ.2.1 E S im (B + 61 + 4 * t0 + 1) (hC.2.2.2.2.2 t0 (by omega)).2.2.2.2.1) (hC.2.2.2.2.2 t0 (by omega)).2.2.2.2.1 (by decide) (Nat.le_of_ble_eq_true rfl) (Nat.le_refl _) (Nat.le_refl _) (fun v_57 S_57 im_57 h_57 => ?_)
            obtain ⟨rfl, rfl, rfl⟩ := h_57
            refine z_goto (pc := 60) C 65 dX6_ask_60 (by decide) ?_
            exact z_iret (pc := 65) C ρ dX6_ask_65 (⟨_, rfl, by rw [r_ask, if_pos hb_1, if_pos hb_8, hct0, if_neg c_28, if_pos c_39, if_pos hb_47, v4, v1, wor_eq _ _ v3], rfl, rfl⟩)
          · 
            rw [s_under, ← ek0] at hb_47
            refine z_if_eqT (pc := 50) C 63 dX6_ask_50 (by decide) (by decide) ?_
            refine z_ldc (pc := 63) C dX6_ask_63 wk_X6_101 ?_
            exact z_iret (pc := 65) C ρ dX6_ask_65 (⟨_, rfl, by rw [r_ask, if_pos hb_1, if_pos hb_8, hct0, if_neg c_28, if_pos c_39, if_neg hb_47], rfl, rfl⟩)
      · 
        refine z_ldc (pc := 31) C dX6_ask_31 wk_X6_192 ?_
        exact z_iret (pc := 33) C ρ dX6_ask_33 (⟨_, rfl, by rw [r_ask, if_pos hb_1, if_pos hb_8, hct0, if_pos c_28], rfl, rfl⟩)
    · 
      refine z_if_neF (pc := 11) C 17 dX6_ask_11 (by decide) (by decide) ?_
      refine z_ldc (pc := 14) C dX6_ask_14 wk_X6_60 ?_
      exact z_iret (pc := 16) C ρ dX6_ask_16 (⟨_, rfl, by simp only [r_ask, if_pos hb_1, if_neg hb_8], rfl, rfl⟩)
  · 
    refine z_if_eqT (pc := 4) C 14 dX6_ask_4 (by decide) (by decide) ?_
    refine z_ldc (pc := 14) C dX6_ask_14 wk_X6_60 ?_
    exact z_iret (pc := 16) C ρ dX6_ask_16 (⟨_, rfl, by simp only [r_ask, if_neg hb_1], rfl, rfl⟩)
set_option maxRecDepth 100000 in
set_option maxHeartbeats 4000000 in
theorem c6_item (l : Launch) (E : Ex) (S : Sx) (im : Mem) (B : Nat) (hC : CL S B) (th sa sb hc : Nat → Int32) (hsl : SLS im B th sa sb hc) (x p : Int32) : Mt l E yX6_item cX6_item 4 (some .int) 3 0 0 [.ref B, .int x, .int p] S im (pI (pE S im (r_item x p (th x.toNatClampNeg) (sa x.toNatClampNeg) (fun j => hc (24 * x.toNatClampNeg + j))))) := by
  refine Mt.of (by decide +kernel) rfl rfl (Nat.le_of_ble_eq_true rfl) ?_
  intro κ hκ C ρ
  subst hκ
  show V E κ 4 0 0 0 [some (.ref B), some (.int x), some (.int p), none] [] S im
  refine z_iload_n (pc := 0) C dX6_item_0 rfl ?_
  refine kX6_287 (pc := 1) C dX6_item_1 (c6_isSlot κ.2.1 E S im (x)) (by decide) (Nat.le_of_ble_eq_true rfl) (Nat.le_refl _) (Nat.le_refl _) (fun v_1 S_1 im_1 h_1 => ?_)
  rcases h_1 with ⟨hb_1, rfl, rfl, rfl⟩ | ⟨hb_1, rfl, rfl, rfl⟩
  · 
    obtain ⟨t0, ht00, ht0, rfl⟩ := (rng (by decide) (by decide)).mp hb_1
    have hct0 : (nI t0).toNatClampNeg = t0 := nI_clamp (by omega)
    obtain ⟨u1, u2, u3, u4⟩ := hsl t0 (by omega)
    refine z_if_neT (pc := 4) C 10 dX6_item_4 (by decide) (by decide) ?_
    refine z_aload_n (pc := 10) C dX6_item_10 rfl ?_
    refine gX6_37 (pc := 11) C dX6_item_11 (cl_K hC) (cl_r6 hC) ?_
    refine z_iload_n (pc := 14) C dX6_item_14 rfl ?_
    refine z_aald (pc := 15) C dX6_item_15 (cl_a50 hC) (by decide) (cl_n50 hC) (by omega) (by decide) (hC.2.2.2.2.2 t0 (by omega)).1 ?_
    refine z_astore_n (pc := 16) C dX6_item_16 (by decide) rfl ?_
    refine z_aload_n (pc := 17) C dX6_item_17 rfl ?_
    refine gX6_293 (pc := 18) C dX6_item_18 (hC.2.2.2.2.2 t0 (by omega)).2.1 ?_
    refine z_eqi (y := th t0) (u1) ?_
    refine z_if_ne (pc := 21) C 27 dX6_item_21 (by decide) (fun c_21 => ?_) (fun c_21 => ?_)
    · 
      refine z_aload_n (pc := 27) C dX6_item_27 rfl ?_
      refine gX6_293 (pc := 28) C dX6_item_28 (hC.2.2.2.2.2 t0 (by omega)).2.1 ?_
      refine z_eqi (y := th t0) (u1) ?_
      refine z_iconstN (pc := 31) C 2 dX6_item_31 ?_
      refine z_icmp_eq (pc := 32) C 38 dX6_item_32 (by decide) (fun c_32 => ?_) (fun c_32 => ?_)
      · 
        obtain ⟨v1, ⟨z, hz, ez⟩, v3⟩ := u3 c_32
        refine z_aload_n (pc := 38) C dX6_item_38 rfl ?_
        refine gX6_303 (pc := 39) C dX6_item_39 (hC.2.2.2.2.2 t0 (by omega)).2.1 (hC.2.2.2.2.2 t0 (by omega)).2.2.2.1 ?_
        refine z_iload_n (pc := 42) C dX6_item_42 rfl ?_
        refine kX6_256 (pc := 43) C dX6_item_43 (c1_hasPlace κ.2.1 E S im (B + 61 + 4 * t0 + 2) (hC.2.2.2.2.2 t0 (by omega)).2.2.2.2.2 z hz (v1.trans ez) p) (hC.2.2.2.2.2 t0 (by omega)).2.2.2.2.2.1 (by decide) (Nat.le_of_ble_eq_true rfl) (Nat.le_refl _) (Nat.le_refl _) (fun v_43 S_43 im_43 h_43 => ?_)
        rcases h_43 with ⟨hb_43, rfl, rfl, rfl⟩ | ⟨hb_43, rfl, rfl, rfl⟩
        · 
          obtain ⟨p0, hp0, rfl⟩ := (in_sz (by omega)).mp hb_43
          have hcp : (nI p0).toNatClampNeg = p0 := nI_clamp (by omega)
          refine z_if_neT (pc := 46) C 53 dX6_item_46 (by decide) (by decide) ?_
          refine z_aload_n (pc := 53) C dX6_item_53 rfl ?_
          refine gX6_303 (pc := 54) C dX6_item_54 (hC.2.2.2.2.2 t0 (by omega)).2.1 (hC.2.2.2.2.2 t0 (by omega)).2.2.2.1 ?_
          refine z_iload_n (pc := 57) C dX6_item_57 rfl ?_
          refine kX6_268 (pc := 58) C dX6_item_58 (c1_hasNumber κ.2.1 E S im (B + 61 + 4 * t0 + 2) (hC.2.2.2.2.2 t0 (by omega)).2.2.2.2.2 z hz (v1.trans ez) (nI p0)) (hC.2.2.2.2.2 t0 (by omega)).2.2.2.2.2.1 (by decide) (Nat.le_of_ble_eq_true rfl) (Nat.le_refl _) (Nat.le_refl _) (fun v_58 S_58 im_58 h_58 => ?_)
          rcases h_58 with ⟨hb_58, rfl, rfl, rfl⟩ | ⟨hb_58, rfl, rfl, rfl⟩
          · 
            have hne := hb_58.2
            rw [hcp, v3 p0 (by omega)] at hne
            refine z_if_eqF (pc := 61) C 76 dX6_item_61 (by decide) (by decide) ?_
            refine z_aload_n (pc := 64) C dX6_item_64 rfl ?_
            refine gX6_303 (pc := 65) C dX6_item_65 (hC.2.2.2.2.2 t0 (by omega)).2.1 (hC.2.2.2.2.2 t0 (by omega)).2.2.2.1 ?_
            refine gX6_263 (pc := 68) C dX6_item_68 (hC.2.2.2.2.2 t0 (by omega)).2.2.2.2.2.1 (hC.2.2.2.2.2 t0 (by omega)).2.2.2.2.2.2.1 ?_
            refine z_iload_n (pc := 71) C dX6_item_71 rfl ?_
            refine z_iald (pc := 72) C dX6_item_72 (hC.2.2.2.2.2 t0 (by omega)).2.2.2.2.2.2.2.1 (hC.2.2.2.2.2 t0 (by omega)).2.2.2.2.2.2.2.2 (by omega) (by decide) ?_
            refine z_eqi (y := hc (24 * t0 + p0)) (v3 p0 (by omega)) ?_
            refine z_goto (pc := 73) C 78 dX6_item_73 (by decide) ?_
            exact z_iret (pc := 78) C ρ dX6_item_78 (⟨_, rfl, by rw [r_item, if_pos hb_1, hct0, if_neg c_21, if_pos c_32, ez, if_pos hb_43, hcp, if_neg hne], rfl, rfl⟩)
          · 
            have hne : hc (24 * t0 + p0) = -1000000005 := Decidable.byContradiction (fun h => hb_58 ⟨hb_43, by rw [hcp, v3 p0 (by omega)]; exact h⟩)
            refine z_if_eqT (pc := 61) C 76 dX6_item_61 (by decide) (by decide) ?_
            refine z_ldc (pc := 76) C dX6_item_76 wk_X6_101 ?_
            exact z_iret (pc := 78) C ρ dX6_item_78 (⟨_, rfl, by rw [r_item, if_pos hb_1, hct0, if_neg c_21, if_pos c_32, ez, if_pos hb_43, hcp, if_pos hne], rfl, rfl⟩)
        · 
          refine z_if_neF (pc := 46) C 53 dX6_item_46 (by decide) (by decide) ?_
          refine z_ldcw (pc := 49) C dX6_item_49 wk_X6_259 ?_
          exact z_iret (pc := 52) C ρ dX6_item_52 (⟨_, rfl, by rw [r_item, if_pos hb_1, hct0, if_neg c_21, if_pos c_32, ez, if_neg hb_43], rfl, rfl⟩)
      · 
        refine z_ldc (pc := 35) C dX6_item_35 wk_X6_101 ?_
        exact z_iret (pc := 37) C ρ dX6_item_37 (⟨_, rfl, by rw [r_item, if_pos hb_1, hct0, if_neg c_21, if_neg c_32], rfl, rfl⟩)
    · 
      refine z_ldc (pc := 24) C dX6_item_24 wk_X6_192 ?_
      exact z_iret (pc := 26) C ρ dX6_item_26 (⟨_, rfl, by rw [r_item, if_pos hb_1, hct0, if_pos c_21], rfl, rfl⟩)
  · 
    refine z_if_neF (pc := 4) C 10 dX6_item_4 (by decide) (by decide) ?_
    refine z_ldc (pc := 7) C dX6_item_7 wk_X6_60 ?_
    exact z_iret (pc := 9) C ρ dX6_item_9 (⟨_, rfl, by simp only [r_item, if_neg hb_1], rfl, rfl⟩)
theorem rem_m1 (a : Int32) : a - a / (-1) * (-1) = nI 0 := by
  have e : a / (-1) = -a := by
    rw [← Int32.toInt_inj, Int32.toInt_div, show (-1 : Int32).toInt = -1 by decide, Int32.toInt_neg, Int.tdiv_neg, Int.tdiv_one]
  rw [e, Int32.neg_mul, Int32.mul_neg, Int32.mul_one, Int32.neg_neg, Int32.sub_self, nI_0]
set_option maxRecDepth 100000 in
set_option maxHeartbeats 4000000 in
theorem c6_rest (l : Launch) (E : Ex) (S : Sx) (im : Mem) (B : Nat) (hC : CL S B) (th sa sb hc : Nat → Int32) (hsl : SLS im B th sa sb hc) (x w : Int32) : Mt l E yX6_rest cX6_rest 4 (some .int) 3 0 0 [.ref B, .int x, .int w] S im (pI (pE S im (r_rest x w (th x.toNatClampNeg) (sa x.toNatClampNeg)))) := by
  refine Mt.of (by decide +kernel) rfl rfl (Nat.le_of_ble_eq_true rfl) ?_
  intro κ hκ C ρ
  subst hκ
  show V E κ 4 0 0 0 [some (.ref B), some (.int x), some (.int w), none] [] S im
  refine z_iload_n (pc := 0) C dX6_rest_0 rfl ?_
  refine kX6_287 (pc := 1) C dX6_rest_1 (c6_isSlot κ.2.1 E S im (x)) (by decide) (Nat.le_of_ble_eq_true rfl) (Nat.le_refl _) (Nat.le_refl _) (fun v_1 S_1 im_1 h_1 => ?_)
  rcases h_1 with ⟨hb_1, rfl, rfl, rfl⟩ | ⟨hb_1, rfl, rfl, rfl⟩
  · 
    obtain ⟨t0, ht00, ht0, rfl⟩ := (rng (by decide) (by decide)).mp hb_1
    have hct0 : (nI t0).toNatClampNeg = t0 := nI_clamp (by omega)
    obtain ⟨u1, u2, u3, u4⟩ := hsl t0 (by omega)
    refine z_if_neT (pc := 4) C 10 dX6_rest_4 (by decide) (by decide) ?_
    refine z_aload_n (pc := 10) C dX6_rest_10 rfl ?_
    refine gX6_37 (pc := 11) C dX6_rest_11 (cl_K hC) (cl_r6 hC) ?_
    refine z_iload_n (pc := 14) C dX6_rest_14 rfl ?_
    refine z_aald (pc := 15) C dX6_rest_15 (cl_a50 hC) (by decide) (cl_n50 hC) (by omega) (by decide) (hC.2.2.2.2.2 t0 (by omega)).1 ?_
    refine z_astore_n (pc := 16) C dX6_rest_16 (by decide) rfl ?_
    refine z_aload_n (pc := 17) C dX6_rest_17 rfl ?_
    refine gX6_293 (pc := 18) C dX6_rest_18 (hC.2.2.2.2.2 t0 (by omega)).2.1 ?_
    refine z_eqi (y := th t0) (u1) ?_
    refine z_if_ne (pc := 21) C 27 dX6_rest_21 (by decide) (fun c_21 => ?_) (fun c_21 => ?_)
    · 
      refine z_aload_n (pc := 27) C dX6_rest_27 rfl ?_
      refine gX6_293 (pc := 28) C dX6_rest_28 (hC.2.2.2.2.2 t0 (by omega)).2.1 ?_
      refine z_eqi (y := th t0) (u1) ?_
      refine z_iconstN (pc := 31) C 3 dX6_rest_31 ?_
      refine z_icmp_eq (pc := 32) C 38 dX6_rest_32 (by decide) (fun c_32 => ?_) (fun c_32 => ?_)
      · 
        refine z_iload_n (pc := 38) C dX6_rest_38 rfl ?_
        refine z_if_ne (pc := 39) C 48 dX6_rest_39 (by decide) (fun c_39 => ?_) (fun c_39 => ?_)
        · 
          refine z_aload_n (pc := 48) C dX6_rest_48 rfl ?_
          refine gX6_310 (pc := 49) C dX6_rest_49 (hC.2.2.2.2.2 t0 (by omega)).2.1 ?_
          refine z_eqi (y := sa t0) (u4 c_32) ?_
          refine z_iload_n (pc := 52) C dX6_rest_52 rfl ?_
          refine z_irem (pc := 53) C dX6_rest_53 (c_39) ?_
          exact z_iret (pc := 54) C ρ dX6_rest_54 (⟨_, rfl, by rw [r_rest, if_pos hb_1, hct0, if_neg c_21, if_pos c_32, if_neg c_39]; by_cases hw : w = -1; (rw [if_pos hw, hw, rem_m1]); rw [if_neg hw], rfl, rfl⟩)
        · 
          refine z_ldcw (pc := 42) C dX6_rest_42 wk_X6_313 ?_
          refine z_goto (pc := 45) C 54 dX6_rest_45 (by decide) ?_
          exact z_iret (pc := 54) C ρ dX6_rest_54 (⟨_, rfl, by rw [r_rest, if_pos hb_1, hct0, if_neg c_21, if_pos c_32, if_pos c_39], rfl, rfl⟩)
      · 
        refine z_ldc (pc := 35) C dX6_rest_35 wk_X6_101 ?_
        exact z_iret (pc := 37) C ρ dX6_rest_37 (⟨_, rfl, by rw [r_rest, if_pos hb_1, hct0, if_neg c_21, if_neg c_32], rfl, rfl⟩)
    · 
      refine z_ldc (pc := 24) C dX6_rest_24 wk_X6_192 ?_
      exact z_iret (pc := 26) C ρ dX6_rest_26 (⟨_, rfl, by rw [r_rest, if_pos hb_1, hct0, if_pos c_21], rfl, rfl⟩)
  · 
    refine z_if_neF (pc := 4) C 10 dX6_rest_4 (by decide) (by decide) ?_
    refine z_ldc (pc := 7) C dX6_rest_7 wk_X6_60 ?_
    exact z_iret (pc := 9) C ρ dX6_rest_9 (⟨_, rfl, by simp only [r_rest, if_neg hb_1], rfl, rfl⟩)
