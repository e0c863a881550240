/-! the reference: lay -/
def r_lay (n : Nat) (x t k th so : Int32) : Int32 := if isSl x then (if nI 0 ≤ t ∧ t ≤ nI 3 then (if t = nI 1 then (if lmp n k then th else -1000000001) else if t = nI 2 then (if isSh k then (if 0 ≤ so then th else -1000000011) else -1000000001) else th) else -1000000001) else -1000000001
def lyC (M : Nat) (im : Mem) (x : Nat) (t A B : Int32) (row : Nat → Int32) (im' : Mem) : Prop := im' (M + 20) = upd (im (M + 20)) x t ∧ im' (M + 21) = upd (im (M + 21)) x A ∧ im' (M + 22) = upd (im (M + 22)) x B ∧ im' (M + 23) = row ∧ ∀ a, a ≠ M + 20 → a ≠ M + 21 → a ≠ M + 22 → a ≠ M + 23 → im' a = im a
def s_hc (h c : Nat → Int32) (x k : Nat) : Nat → Int32 := fun j => if 24 * x ≤ j ∧ j < 24 * x + 24 then c (24 * k + (j - 24 * x)) else h j
def g_lay (M : Nat) (im : Mem) (n : Nat) (f : Nat → Int32) (x t k : Int32) (im' : Mem) : Prop := if isSl x then (if nI 0 ≤ t ∧ t ≤ nI 3 then (if t = nI 1 then (if lmp n k then lyC M im x.toNatClampNeg t (f (8 + 7 * k.toNatClampNeg + 0)) (s_worth (f (8 + 7 * k.toNatClampNeg + 0)) (f (8 + 7 * k.toNatClampNeg + 1))) (im (M + 23)) im' else im' = im) else if t = nI 2 then (if isSh k then (if 0 ≤ im (M + 17) k.toNatClampNeg then lyC M im x.toNatClampNeg t (im (M + 18) k.toNatClampNeg) (nI 0) (s_hc (im (M + 23)) (im (M + 19)) x.toNatClampNeg k.toNatClampNeg) im' else im' = im) else im' = im) else lyC M im x.toNatClampNeg t k (nI 0) (im (M + 23)) im') else im' = im) else im' = im
set_option maxRecDepth 100000 in
set_option maxHeartbeats 4000000 in
theorem m7_lay (l : Launch) (E : Ex) (S : Sx) (im : Mem) (M : Nat) (hM : ML S M) (n n7 : Nat) (f : Nat → Int32) (hf0 : im (M + 1) = f) (hok : MOk f n n7) (x t k : Int32) : Mt l E yX7_lay cX7_lay 6 (some .int) 3 0 0 [.ref M, .int x, .int t, .int k] S im (pI (pQ S (r_lay n x t k (im (M + 20) x.toNatClampNeg) (im (M + 17) k.toNatClampNeg)) (g_lay M im n f x t k))) := by
  refine Mt.of (by decide +kernel) rfl rfl (Nat.le_of_ble_eq_true rfl) ?_
  intro κ hκ C ρ
  subst hκ
  show V E κ 6 0 0 0 [some (.ref M), some (.int x), some (.int t), some (.int k), none, none] [] S im
  refine z_iload_n (pc := 0) C dX7_lay_0 rfl ?_
  refine kX7_273 (pc := 1) C dX7_lay_1 (m7_isSlot κ.2.1 E S im x) (by decide) (Nat.le_of_ble_eq_true rfl) (Nat.le_refl _) (Nat.le_refl _) (fun v_1 S_1 im_1 h_1 => ?_)
  rcases h_1 with ⟨hb_1, rfl, rfl, rfl⟩ | ⟨hb_1, rfl, rfl, rfl⟩
  · 
    obtain ⟨x0, hx00, hx0, rfl⟩ := (rng (by decide) (by decide)).mp hb_1
    have hcx0 : (nI x0).toNatClampNeg = x0 := nI_clamp (by omega)
    refine z_if_eqF (pc := 4) C 41 dX7_lay_4 (by decide) (by decide) ?_
    refine z_iload_n (pc := 7) C dX7_lay_7 rfl ?_
    refine z_iconstN (pc := 8) C 0 dX7_lay_8 ?_
    refine z_iconstN (pc := 9) C 3 dX7_lay_9 ?_
    refine kX7_92 (pc := 10) C dX7_lay_10 (m7_in κ.2.1 E S im t (nI 0) (nI 3)) (by decide) (Nat.le_of_ble_eq_true rfl) (Nat.le_refl _) (Nat.le_refl _) (fun v_10 S_10 im_10 h_10 => ?_)
    rcases h_10 with ⟨hb_10, rfl, rfl, rfl⟩ | ⟨hb_10, rfl, rfl, rfl⟩
    · 
      have hn10 := hok.1.1
      obtain ⟨t0, ht00, ht0, rfl⟩ := (rng (by decide) (by decide)).mp hb_10
      rcases (show t0 = 0 ∨ t0 = 1 ∨ t0 = 2 ∨ t0 = 3 by omega) with rfl | rfl | rfl | rfl
      · refine z_if_eqF (pc := 13) C 41 dX7_lay_13 (by decide) (by decide) ?_
        refine z_iload_n (pc := 16) C dX7_lay_16 rfl ?_
        refine z_iconstN (pc := 17) C 1 dX7_lay_17 ?_
        refine z_icmp_neT (pc := 18) C 29 dX7_lay_18 (by decide) (by decide) ?_
        refine z_iload_n (pc := 29) C dX7_lay_29 rfl ?_
        refine z_iconstN (pc := 30) C 2 dX7_lay_30 ?_
        refine z_icmp_neT (pc := 31) C 44 dX7_lay_31 (by decide) (by decide) ?_
        refine z_iload_n (pc := 44) C dX7_lay_44 rfl ?_
        refine z_iconstN (pc := 45) C 2 dX7_lay_45 ?_
        refine z_icmp_neT (pc := 46) C 61 dX7_lay_46 (by decide) (by decide) ?_
        refine z_aload_n (pc := 61) C dX7_lay_61 rfl ?_
        refine gX7_73 (pc := 62) C dX7_lay_62 (ml_K hM) (ml_r31 hM) ?_
        refine z_iload_n (pc := 65) C dX7_lay_65 rfl ?_
        refine z_iald (pc := 66) C dX7_lay_66 (ml_a20 hM) (ml_n20 hM) (by omega) (by decide) ?_
        refine z_eqi (y := im (M + 20) x0) (rfl) ?_
        refine z_istore (pc := 67) C dX7_lay_67 (by decide) rfl ?_
        refine z_aload_n (pc := 69) C dX7_lay_69 rfl ?_
        refine gX7_73 (pc := 70) C dX7_lay_70 (ml_K hM) (ml_r31 hM) ?_
        refine z_iload_n (pc := 73) C dX7_lay_73 rfl ?_
        refine z_iload_n (pc := 74) C dX7_lay_74 rfl ?_
        refine z_iast (pc := 75) C dX7_lay_75 (ml_a20 hM) (ml_n20 hM) (by omega) (by decide) ?_
        refine z_aload_n (pc := 76) C dX7_lay_76 rfl ?_
        refine gX7_76 (pc := 77) C dX7_lay_77 (ml_K hM) (ml_r32 hM) ?_
        refine z_iload_n (pc := 80) C dX7_lay_80 rfl ?_
        refine z_iload_n (pc := 81) C dX7_lay_81 rfl ?_
        refine z_iconstN (pc := 82) C 1 dX7_lay_82 ?_
        refine z_icmp_neT (pc := 83) C 95 dX7_lay_83 (by decide) (by decide) ?_
        refine z_iload_n (pc := 95) C dX7_lay_95 rfl ?_
        refine z_iconstN (pc := 96) C 2 dX7_lay_96 ?_
        refine z_icmp_neT (pc := 97) C 109 dX7_lay_97 (by decide) (by decide) ?_
        refine z_iload_n (pc := 109) C dX7_lay_109 rfl ?_
        refine z_iast (pc := 110) C dX7_lay_110 (ml_a21 hM) (ml_n21 hM) (by omega) (by decide) ?_
        refine z_aload_n (pc := 111) C dX7_lay_111 rfl ?_
        refine gX7_79 (pc := 112) C dX7_lay_112 (ml_K hM) (ml_r33 hM) ?_
        refine z_iload_n (pc := 115) C dX7_lay_115 rfl ?_
        refine z_iload_n (pc := 116) C dX7_lay_116 rfl ?_
        refine z_iconstN (pc := 117) C 1 dX7_lay_117 ?_
        refine z_icmp_neT (pc := 118) C 129 dX7_lay_118 (by decide) (by decide) ?_
        refine z_iconstN (pc := 129) C 0 dX7_lay_129 ?_
        refine z_iast (pc := 130) C dX7_lay_130 (ml_a22 hM) (ml_n22 hM) (by omega) (by decide) ?_
        refine z_iconstN (pc := 131) C 0 dX7_lay_131 ?_
        refine z_istore (pc := 132) C dX7_lay_132 (by decide) rfl ?_
        refine z_iload (pc := 134) C dX7_lay_134 rfl ?_
        refine z_bipushN (pc := 136) C 24 (by decide) dX7_lay_136 ?_
        refine z_icmp_geF (pc := 138) C 176 dX7_lay_138 (by decide) (by decide) ?_
        refine z_iload_n (pc := 141) C dX7_lay_141 rfl ?_
        refine z_iconstN (pc := 142) C 2 dX7_lay_142 ?_
        refine z_icmp_neT (pc := 143) C 176 dX7_lay_143 (by decide) (by decide) ?_
        refine z_iload (pc := 176) C dX7_lay_176 rfl ?_
        exact z_iret (pc := 178) C ρ dX7_lay_178 (⟨_, rfl, by simp only [r_lay, hcx0,  if_pos hb_1, if_pos hb_10, if_neg (show ¬ nI 0 = nI 1 by decide), if_neg (show ¬ nI 0 = nI 2 by decide), if_true], rfl, by simp only [g_lay, hcx0,  if_pos hb_1, if_pos hb_10, if_neg (show ¬ nI 0 = nI 1 by decide), if_neg (show ¬ nI 0 = nI 2 by decide), if_true]; exact ⟨by rw [up2_n _ _ _ (by omega), up2_n _ _ _ (by omega), up2_s], by rw [up2_n _ _ _ (by omega), up2_s, up2_n _ _ _ (by omega)], by rw [up2_s, up2_n _ _ _ (by omega), up2_n _ _ _ (by omega)], by rw [up2_n _ _ _ (by omega), up2_n _ _ _ (by omega), up2_n _ _ _ (by omega)], fun a q1 q2 q3 q4 => by rw [up2_n _ _ _ q3, up2_n _ _ _ q2, up2_n _ _ _ q1]⟩⟩)
      · refine z_if_eqF (pc := 13) C 41 dX7_lay_13 (by decide) (by decide) ?_
        refine z_iload_n (pc := 16) C dX7_lay_16 rfl ?_
        refine z_iconstN (pc := 17) C 1 dX7_lay_17 ?_
        refine z_icmp_neF (pc := 18) C 29 dX7_lay_18 (by decide) (by decide) ?_
        refine z_aload_n (pc := 21) C dX7_lay_21 rfl ?_
        refine z_iload_n (pc := 22) C dX7_lay_22 rfl ?_
        refine kX7_121 (pc := 23) C dX7_lay_23 (m7_isLmp κ.2.1 E S im M hM k n hok.1.1 (by rw [hf0]; exact hok.1.2)) (ml_K hM) (by decide) (Nat.le_of_ble_eq_true rfl) (Nat.le_refl _) (Nat.le_refl _) (fun v_23 S_23 im_23 h_23 => ?_)
        rcases h_23 with ⟨hb_23, rfl, rfl, rfl⟩ | ⟨hb_23, rfl, rfl, rfl⟩
        · 
          obtain ⟨l0, hl0, rfl⟩ := (in_lamp hok.1.1).mp hb_23
          have hcl : (nI l0).toNatClampNeg = l0 := nI_clamp (by omega)
          refine z_if_eqF (pc := 26) C 41 dX7_lay_26 (by decide) (by decide) ?_
          refine z_iload_n (pc := 29) C dX7_lay_29 rfl ?_
          refine z_iconstN (pc := 30) C 2 dX7_lay_30 ?_
          refine z_icmp_neT (pc := 31) C 44 dX7_lay_31 (by decide) (by decide) ?_
          refine z_iload_n (pc := 44) C dX7_lay_44 rfl ?_
          refine z_iconstN (pc := 45) C 2 dX7_lay_45 ?_
          refine z_icmp_neT (pc := 46) C 61 dX7_lay_46 (by decide) (by decide) ?_
          refine z_aload_n (pc := 61) C dX7_lay_61 rfl ?_
          refine gX7_73 (pc := 62) C dX7_lay_62 (ml_K hM) (ml_r31 hM) ?_
          refine z_iload_n (pc := 65) C dX7_lay_65 rfl ?_
          refine z_iald (pc := 66) C dX7_lay_66 (ml_a20 hM) (ml_n20 hM) (by omega) (by decide) ?_
          refine z_eqi (y := im (M + 20) x0) (rfl) ?_
          refine z_istore (pc := 67) C dX7_lay_67 (by decide) rfl ?_
          refine z_aload_n (pc := 69) C dX7_lay_69 rfl ?_
          refine gX7_73 (pc := 70) C dX7_lay_70 (ml_K hM) (ml_r31 hM) ?_
          refine z_iload_n (pc := 73) C dX7_lay_73 rfl ?_
          refine z_iload_n (pc := 74) C dX7_lay_74 rfl ?_
          refine z_iast (pc := 75) C dX7_lay_75 (ml_a20 hM) (ml_n20 hM) (by omega) (by decide) ?_
          refine z_aload_n (pc := 76) C dX7_lay_76 rfl ?_
          refine gX7_76 (pc := 77) C dX7_lay_77 (ml_K hM) (ml_r32 hM) ?_
          refine z_iload_n (pc := 80) C dX7_lay_80 rfl ?_
          refine z_iload_n (pc := 81) C dX7_lay_81 rfl ?_
          refine z_iconstN (pc := 82) C 1 dX7_lay_82 ?_
          refine z_icmp_neF (pc := 83) C 95 dX7_lay_83 (by decide) (by decide) ?_
          refine z_aload_n (pc := 86) C dX7_lay_86 rfl ?_
          refine z_iload_n (pc := 87) C dX7_lay_87 rfl ?_
          refine z_iconstN (pc := 88) C 0 dX7_lay_88 ?_
          refine kX7_106 (pc := 89) C dX7_lay_89 (m7_of κ.2.1 E S _ M hM l0 0 (by omega) (by decide)) (ml_K hM) (by decide) (Nat.le_of_ble_eq_true rfl) (Nat.le_refl _) (Nat.le_refl _) (fun v_89 S_89 im_89 h_89 => ?_)
          obtain ⟨rfl, rfl, rfl⟩ := h_89
          refine z_eqi (y := f (8 + 7 * l0 + 0)) (by rw [up2_n _ _ _ (by omega), hf0]) ?_
          refine z_goto (pc := 92) C 110 dX7_lay_92 (by decide) ?_
          refine z_iast (pc := 110) C dX7_lay_110 (ml_a21 hM) (ml_n21 hM) (by omega) (by decide) ?_
          refine z_aload_n (pc := 111) C dX7_lay_111 rfl ?_
          refine gX7_79 (pc := 112) C dX7_lay_112 (ml_K hM) (ml_r33 hM) ?_
          refine z_iload_n (pc := 115) C dX7_lay_115 rfl ?_
          refine z_iload_n (pc := 116) C dX7_lay_116 rfl ?_
          refine z_iconstN (pc := 117) C 1 dX7_lay_117 ?_
          refine z_icmp_neF (pc := 118) C 129 dX7_lay_118 (by decide) (by decide) ?_
          refine z_aload_n (pc := 121) C dX7_lay_121 rfl ?_
          refine z_iload_n (pc := 122) C dX7_lay_122 rfl ?_
          refine kX7_128 (pc := 123) C dX7_lay_123 (m7_worthOf κ.2.1 E S _ M hM l0 (by omega)) (ml_K hM) (by decide) (Nat.le_of_ble_eq_true rfl) (Nat.le_refl _) (Nat.le_refl _) (fun v_123 S_123 im_123 h_123 => ?_)
          obtain ⟨rfl, rfl, rfl⟩ := h_123
          refine z_eqi (y := s_worth (f (8 + 7 * l0 + 0)) (f (8 + 7 * l0 + 1))) (by rw [up2_n _ _ _ (by omega), up2_n _ _ _ (by omega), hf0]) ?_
          refine z_goto (pc := 126) C 130 dX7_lay_126 (by decide) ?_
          refine z_iast (pc := 130) C dX7_lay_130 (ml_a22 hM) (ml_n22 hM) (by omega) (by decide) ?_
          refine z_iconstN (pc := 131) C 0 dX7_lay_131 ?_
          refine z_istore (pc := 132) C dX7_lay_132 (by decide) rfl ?_
          refine z_iload (pc := 134) C dX7_lay_134 rfl ?_
          refine z_bipushN (pc := 136) C 24 (by decide) dX7_lay_136 ?_
          refine z_icmp_geF (pc := 138) C 176 dX7_lay_138 (by decide) (by decide) ?_
          refine z_iload_n (pc := 141) C dX7_lay_141 rfl ?_
          refine z_iconstN (pc := 142) C 2 dX7_lay_142 ?_
          refine z_icmp_neT (pc := 143) C 176 dX7_lay_143 (by decide) (by decide) ?_
          refine z_iload (pc := 176) C dX7_lay_176 rfl ?_
          exact z_iret (pc := 178) C ρ dX7_lay_178 (⟨_, rfl, by simp only [r_lay, hcx0, hcl,  if_pos hb_1, if_pos hb_10, if_true, if_pos hb_23], rfl, by simp only [g_lay, hcx0, hcl,  if_pos hb_1, if_pos hb_10, if_true, if_pos hb_23]; exact ⟨by rw [up2_n _ _ _ (by omega), up2_n _ _ _ (by omega), up2_s], by rw [up2_n _ _ _ (by omega), up2_s, up2_n _ _ _ (by omega)], by rw [up2_s, up2_n _ _ _ (by omega), up2_n _ _ _ (by omega)], by rw [up2_n _ _ _ (by omega), up2_n _ _ _ (by omega), up2_n _ _ _ (by omega)], fun a q1 q2 q3 q4 => by rw [up2_n _ _ _ q3, up2_n _ _ _ q2, up2_n _ _ _ q1]⟩⟩)
        · 
          refine z_if_eqT (pc := 26) C 41 dX7_lay_26 (by decide) (by decide) ?_
          refine z_ldc (pc := 41) C dX7_lay_41 wk_X7_100 ?_
          exact z_iret (pc := 43) C ρ dX7_lay_43 (⟨_, rfl, by simp only [r_lay, hcx0, if_pos hb_1, if_pos hb_10, if_true, if_neg hb_23], rfl, by simp only [g_lay, hcx0, if_pos hb_1, if_pos hb_10, if_true, if_neg hb_23]⟩)
      · refine z_if_eqF (pc := 13) C 41 dX7_lay_13 (by decide) (by decide) ?_
        refine z_iload_n (pc := 16) C dX7_lay_16 rfl ?_
        refine z_iconstN (pc := 17) C 1 dX7_lay_17 ?_
        refine z_icmp_neT (pc := 18) C 29 dX7_lay_18 (by decide) (by decide) ?_
        refine z_iload_n (pc := 29) C dX7_lay_29 rfl ?_
        refine z_iconstN (pc := 30) C 2 dX7_lay_30 ?_
        refine z_icmp_neF (pc := 31) C 44 dX7_lay_31 (by decide) (by decide) ?_
        refine z_iload_n (pc := 34) C dX7_lay_34 rfl ?_
        refine kX7_195 (pc := 35) C dX7_lay_35 (m7_isSheet κ.2.1 E S im k) (by decide) (Nat.le_of_ble_eq_true rfl) (Nat.le_refl _) (Nat.le_refl _) (fun v_35 S_35 im_35 h_35 => ?_)
        rcases h_35 with ⟨hb_35, rfl, rfl, rfl⟩ | ⟨hb_35, rfl, rfl, rfl⟩
        · 
          obtain ⟨k0, hk00, hk0, rfl⟩ := (rng (by decide) (by decide)).mp hb_35
          have hck : (nI k0).toNatClampNeg = k0 := nI_clamp (by omega)
          have loop : ∀ (im1 : Mem), r_lay n (nI x0) (nI 2) (nI k0) (im (M + 20) (nI x0).toNatClampNeg) (im (M + 17) (nI k0).toNatClampNeg) = im (M + 20) x0 → (∀ im' : Mem, im' (M + 23) = s_hc (im (M + 23)) (im (M + 19)) x0 k0 → (∀ a, a ≠ M + 23 → im' a = im1 a) → g_lay M im n f (nI x0) (nI 2) (nI k0) im') → im1 (M + 19) = im (M + 19) → ∀ (r q : Nat) (im' : Mem), q + r = 24 → (∀ j, im' (M + 23) j = if 24 * x0 ≤ j ∧ j < 24 * x0 + q then im (M + 19) (24 * k0 + (j - 24 * x0)) else im (M + 23) j) → (∀ a, a ≠ M + 23 → im' a = im1 a) → V E κ 6 0 0 134 [some (.ref M), some (.int (nI x0)), some (.int (nI 2)), some (.int (nI k0)), some (.int (im (M + 20) x0)), some (.int (nI q))] [] S im' := by
            intro im1 hr hG h19 r
            induction r with
            | zero =>
              intro q im' hq hc ho
              refine z_iload (pc := 134) C dX7_lay_134 rfl ?_
              refine z_bipushN (pc := 136) C 24 (by decide) dX7_lay_136 ?_
              refine z_icmp_geT (pc := 138) C 176 dX7_lay_138 (by decide) (nI_le (by omega) (by omega)) ?_
              refine z_iload (pc := 176) C dX7_lay_176 rfl ?_
              exact z_iret (pc := 178) C ρ dX7_lay_178 (⟨_, rfl, hr, rfl, hG _ (by funext j; rw [hc j, show q = 24 by omega]; rfl) ho⟩)
            | succ r ih =>
              intro q im' hq hc ho
              refine z_iload (pc := 134) C dX7_lay_134 rfl ?_
              refine z_bipushN (pc := 136) C 24 (by decide) dX7_lay_136 ?_
              refine z_icmp_geF (pc := 138) C 176 dX7_lay_138 (by decide) (nI_ge (by omega) (by omega)) ?_
              refine z_iload_n (pc := 141) C dX7_lay_141 rfl ?_
              refine z_iconstN (pc := 142) C 2 dX7_lay_142 ?_
              refine z_icmp_neF (pc := 143) C 176 dX7_lay_143 (by decide) (by decide) ?_
              refine z_aload_n (pc := 146) C dX7_lay_146 rfl ?_
              refine gX7_82 (pc := 147) C dX7_lay_147 (ml_K hM) (ml_r34 hM) ?_
              refine z_bipushN (pc := 150) C 24 (by decide) dX7_lay_150 ?_
              refine z_iload_n (pc := 152) C dX7_lay_152 rfl ?_
              refine z_imulN (pc := 153) C dX7_lay_153 ?_
              refine z_iload (pc := 154) C dX7_lay_154 rfl ?_
              refine z_iaddN (pc := 156) C dX7_lay_156 ?_
              refine z_aload_n (pc := 157) C dX7_lay_157 rfl ?_
              refine gX7_70 (pc := 158) C dX7_lay_158 (ml_K hM) (ml_r30 hM) ?_
              refine z_bipushN (pc := 161) C 24 (by decide) dX7_lay_161 ?_
              refine z_iload_n (pc := 163) C dX7_lay_163 rfl ?_
              refine z_imulN (pc := 164) C dX7_lay_164 ?_
              refine z_iload (pc := 165) C dX7_lay_165 rfl ?_
              refine z_iaddN (pc := 167) C dX7_lay_167 ?_
              refine z_iald (pc := 168) C dX7_lay_168 (ml_a19 hM) (ml_n19 hM) (by omega) (by decide) ?_
              refine z_eqi (y := im (M + 19) (24 * k0 + q)) (by rw [ho _ (by omega), h19]) ?_
              refine z_iast (pc := 169) C dX7_lay_169 (ml_a23 hM) (ml_n23 hM) (by omega) (by decide) ?_
              refine z_iincN (pc := 170) C 1 dX7_lay_170 rfl (by decide) rfl ?_
              refine z_goto (pc := 173) C 134 dX7_lay_173 (by decide) ?_
              refine ih (q + 1) _ (by omega) (fun j => ?_) (fun a h => by rw [up2_n _ _ _ h]; exact ho a h)
              rw [up2_s]
              by_cases e : j = 24 * x0 + q
              · rw [e, upd_s, if_pos ⟨by omega, by omega⟩, show 24 * x0 + q - 24 * x0 = q by omega]
              · rw [upd_n _ _ e, hc j]
                by_cases e2 : 24 * x0 ≤ j ∧ j < 24 * x0 + q
                · rw [if_pos e2, if_pos ⟨by omega, by omega⟩]
                · rw [if_neg e2, if_neg (by omega)]
          refine z_if_neT (pc := 38) C 44 dX7_lay_38 (by decide) (by decide) ?_
          refine z_iload_n (pc := 44) C dX7_lay_44 rfl ?_
          refine z_iconstN (pc := 45) C 2 dX7_lay_45 ?_
          refine z_icmp_neF (pc := 46) C 61 dX7_lay_46 (by decide) (by decide) ?_
          refine z_aload_n (pc := 49) C dX7_lay_49 rfl ?_
          refine gX7_64 (pc := 50) C dX7_lay_50 (ml_K hM) (ml_r28 hM) ?_
          refine z_iload_n (pc := 53) C dX7_lay_53 rfl ?_
          refine z_iald (pc := 54) C dX7_lay_54 (ml_a17 hM) (ml_n17 hM) (by omega) (by decide) ?_
          refine z_if_ge (pc := 55) C 61 dX7_lay_55 (by decide) (fun c_55 => ?_) (fun c_55 => ?_)
          · 
            refine z_aload_n (pc := 61) C dX7_lay_61 rfl ?_
            refine gX7_73 (pc := 62) C dX7_lay_62 (ml_K hM) (ml_r31 hM) ?_
            refine z_iload_n (pc := 65) C dX7_lay_65 rfl ?_
            refine z_iald (pc := 66) C dX7_lay_66 (ml_a20 hM) (ml_n20 hM) (by omega) (by decide) ?_
            refine z_eqi (y := im (M + 20) x0) (rfl) ?_
            refine z_istore (pc := 67) C dX7_lay_67 (by decide) rfl ?_
            refine z_aload_n (pc := 69) C dX7_lay_69 rfl ?_
            refine gX7_73 (pc := 70) C dX7_lay_70 (ml_K hM) (ml_r31 hM) ?_
            refine z_iload_n (pc := 73) C dX7_lay_73 rfl ?_
            refine z_iload_n (pc := 74) C dX7_lay_74 rfl ?_
            refine z_iast (pc := 75) C dX7_lay_75 (ml_a20 hM) (ml_n20 hM) (by omega) (by decide) ?_
            refine z_aload_n (pc := 76) C dX7_lay_76 rfl ?_
            refine gX7_76 (pc := 77) C dX7_lay_77 (ml_K hM) (ml_r32 hM) ?_
            refine z_iload_n (pc := 80) C dX7_lay_80 rfl ?_
            refine z_iload_n (pc := 81) C dX7_lay_81 rfl ?_
            refine z_iconstN (pc := 82) C 1 dX7_lay_82 ?_
            refine z_icmp_neT (pc := 83) C 95 dX7_lay_83 (by decide) (by decide) ?_
            refine z_iload_n (pc := 95) C dX7_lay_95 rfl ?_
            refine z_iconstN (pc := 96) C 2 dX7_lay_96 ?_
            refine z_icmp_neF (pc := 97) C 109 dX7_lay_97 (by decide) (by decide) ?_
            refine z_aload_n (pc := 100) C dX7_lay_100 rfl ?_
            refine gX7_67 (pc := 101) C dX7_lay_101 (ml_K hM) (ml_r29 hM) ?_
            refine z_iload_n (pc := 104) C dX7_lay_104 rfl ?_
            refine z_iald (pc := 105) C dX7_lay_105 (ml_a18 hM) (ml_n18 hM) (by omega) (by decide) ?_
            refine z_eqi (y := im (M + 18) k0) (by rw [up2_n _ _ _ (by omega)]) ?_
            refine z_goto (pc := 106) C 110 dX7_lay_106 (by decide) ?_
            refine z_iast (pc := 110) C dX7_lay_110 (ml_a21 hM) (ml_n21 hM) (by omega) (by decide) ?_
            refine z_aload_n (pc := 111) C dX7_lay_111 rfl ?_
            refine gX7_79 (pc := 112) C dX7_lay_112 (ml_K hM) (ml_r33 hM) ?_
            refine z_iload_n (pc := 115) C dX7_lay_115 rfl ?_
            refine z_iload_n (pc := 116) C dX7_lay_116 rfl ?_
            refine z_iconstN (pc := 117) C 1 dX7_lay_117 ?_
            refine z_icmp_neT (pc := 118) C 129 dX7_lay_118 (by decide) (by decide) ?_
            refine z_iconstN (pc := 129) C 0 dX7_lay_129 ?_
            refine z_iast (pc := 130) C dX7_lay_130 (ml_a22 hM) (ml_n22 hM) (by omega) (by decide) ?_
            refine z_iconstN (pc := 131) C 0 dX7_lay_131 ?_
            refine z_istore (pc := 132) C dX7_lay_132 (by decide) rfl ?_
            exact loop _ (by simp only [r_lay, hcx0, hck, if_pos hb_1, if_pos hb_10, if_neg (show ¬ nI 2 = nI 1 by decide), if_true, if_pos hb_35, if_pos c_55]) (fun _ h1 h2 => by simp only [g_lay, hcx0, hck, if_pos hb_1, if_pos hb_10, if_neg (show ¬ nI 2 = nI 1 by decide), if_true, if_pos hb_35, if_pos c_55]; exact ⟨by rw [h2 _ (by omega), up2_n _ _ _ (by omega), up2_n _ _ _ (by omega), up2_s], by rw [h2 _ (by omega), up2_n _ _ _ (by omega), up2_s, up2_n _ _ _ (by omega)], by rw [h2 _ (by omega), up2_s, up2_n _ _ _ (by omega), up2_n _ _ _ (by omega)], h1, fun a q1 q2 q3 q4 => by rw [h2 _ q4, up2_n _ _ _ q3, up2_n _ _ _ q2, up2_n _ _ _ q1]⟩) (by rw [up2_n _ _ _ (by omega), up2_n _ _ _ (by omega), up2_n _ _ _ (by omega)]) 24 0 _ (by omega) (fun j => by rw [if_neg (by omega), up2_n _ _ _ (by omega), up2_n _ _ _ (by omega), up2_n _ _ _ (by omega)]) (fun _ _ => rfl)
          · 
            refine z_ldc (pc := 58) C dX7_lay_58 wk_X7_198 ?_
            exact z_iret (pc := 60) C ρ dX7_lay_60 (⟨_, rfl, by simp only [r_lay, hcx0, hck,  if_pos hb_1, if_pos hb_10, if_neg (show ¬ nI 2 = nI 1 by decide), if_true, if_pos hb_35, if_neg c_55], rfl, by simp only [g_lay, hcx0, hck,  if_pos hb_1, if_pos hb_10, if_neg (show ¬ nI 2 = nI 1 by decide), if_true, if_pos hb_35, if_neg c_55]⟩)
        · 
          refine z_if_neF (pc := 38) C 44 dX7_lay_38 (by decide) (by decide) ?_
          refine z_ldc (pc := 41) C dX7_lay_41 wk_X7_100 ?_
          exact z_iret (pc := 43) C ρ dX7_lay_43 (⟨_, rfl, by simp only [r_lay, hcx0, if_pos hb_1, if_pos hb_10, if_neg (show ¬ nI 2 = nI 1 by decide), if_true, if_neg hb_35], rfl, by simp only [g_lay, hcx0, if_pos hb_1, if_pos hb_10, if_neg (show ¬ nI 2 = nI 1 by decide), if_true, if_neg hb_35]⟩)
      · refine z_if_eqF (pc := 13) C 41 dX7_lay_13 (by decide) (by decide) ?_
        refine z_iload_n (pc := 16) C dX7_lay_16 rfl ?_
        refine z_iconstN (pc := 17) C 1 dX7_lay_17 ?_
        refine z_icmp_neT (pc := 18) C 29 dX7_lay_18 (by decide) (by decide) ?_
        refine z_iload_n (pc := 29) C dX7_lay_29 rfl ?_
        refine z_iconstN (pc := 30) C 2 dX7_lay_30 ?_
        refine z_icmp_neT (pc := 31) C 44 dX7_lay_31 (by decide) (by decide) ?_
        refine z_iload_n (pc := 44) C dX7_lay_44 rfl ?_
        refine z_iconstN (pc := 45) C 2 dX7_lay_45 ?_
        refine z_icmp_neT (pc := 46) C 61 dX7_lay_46 (by decide) (by decide) ?_
        refine z_aload_n (pc := 61) C dX7_lay_61 rfl ?_
        refine gX7_73 (pc := 62) C dX7_lay_62 (ml_K hM) (ml_r31 hM) ?_
        refine z_iload_n (pc := 65) C dX7_lay_65 rfl ?_
        refine z_iald (pc := 66) C dX7_lay_66 (ml_a20 hM) (ml_n20 hM) (by omega) (by decide) ?_
        refine z_eqi (y := im (M + 20) x0) (rfl) ?_
        refine z_istore (pc := 67) C dX7_lay_67 (by decide) rfl ?_
        refine z_aload_n (pc := 69) C dX7_lay_69 rfl ?_
        refine gX7_73 (pc := 70) C dX7_lay_70 (ml_K hM) (ml_r31 hM) ?_
        refine z_iload_n (pc := 73) C dX7_lay_73 rfl ?_
        refine z_iload_n (pc := 74) C dX7_lay_74 rfl ?_
        refine z_iast (pc := 75) C dX7_lay_75 (ml_a20 hM) (ml_n20 hM) (by omega) (by decide) ?_
        refine z_aload_n (pc := 76) C dX7_lay_76 rfl ?_
        refine gX7_76 (pc := 77) C dX7_lay_77 (ml_K hM) (ml_r32 hM) ?_
        refine z_iload_n (pc := 80) C dX7_lay_80 rfl ?_
        refine z_iload_n (pc := 81) C dX7_lay_81 rfl ?_
        refine z_iconstN (pc := 82) C 1 dX7_lay_82 ?_
        refine z_icmp_neT (pc := 83) C 95 dX7_lay_83 (by decide) (by decide) ?_
        refine z_iload_n (pc := 95) C dX7_lay_95 rfl ?_
        refine z_iconstN (pc := 96) C 2 dX7_lay_96 ?_
        refine z_icmp_neT (pc := 97) C 109 dX7_lay_97 (by decide) (by decide) ?_
        refine z_iload_n (pc := 109) C dX7_lay_109 rfl ?_
        refine z_iast (pc := 110) C dX7_lay_110 (ml_a21 hM) (ml_n21 hM) (by omega) (by decide) ?_
        refine z_aload_n (pc := 111) C dX7_lay_111 rfl ?_
        refine gX7_79 (pc := 112) C dX7_lay_112 (ml_K hM) (ml_r33 hM) ?_
        refine z_iload_n (pc := 115) C dX7_lay_115 rfl ?_
        refine z_iload_n (pc := 116) C dX7_lay_116 rfl ?_
        refine z_iconstN (pc := 117) C 1 dX7_lay_117 ?_
        refine z_icmp_neT (pc := 118) C 129 dX7_lay_118 (by decide) (by decide) ?_
        refine z_iconstN (pc := 129) C 0 dX7_lay_129 ?_
        refine z_iast (pc := 130) C dX7_lay_130 (ml_a22 hM) (ml_n22 hM) (by omega) (by decide) ?_
        refine z_iconstN (pc := 131) C 0 dX7_lay_131 ?_
        refine z_istore (pc := 132) C dX7_lay_132 (by decide) rfl ?_
        refine z_iload (pc := 134) C dX7_lay_134 rfl ?_
        refine z_bipushN (pc := 136) C 24 (by decide) dX7_lay_136 ?_
        refine z_icmp_geF (pc := 138) C 176 dX7_lay_138 (by decide) (by decide) ?_
        refine z_iload_n (pc := 141) C dX7_lay_141 rfl ?_
        refine z_iconstN (pc := 142) C 2 dX7_lay_142 ?_
        refine z_icmp_neT (pc := 143) C 176 dX7_lay_143 (by decide) (by decide) ?_
        refine z_iload (pc := 176) C dX7_lay_176 rfl ?_
        exact z_iret (pc := 178) C ρ dX7_lay_178 (⟨_, rfl, by simp only [r_lay, hcx0,  if_pos hb_1, if_pos hb_10, if_neg (show ¬ nI 3 = nI 1 by decide), if_neg (show ¬ nI 3 = nI 2 by decide), if_true], rfl, by simp only [g_lay, hcx0,  if_pos hb_1, if_pos hb_10, if_neg (show ¬ nI 3 = nI 1 by decide), if_neg (show ¬ nI 3 = nI 2 by decide), if_true]; exact ⟨by rw [up2_n _ _ _ (by omega), up2_n _ _ _ (by omega), up2_s], by rw [up2_n _ _ _ (by omega), up2_s, up2_n _ _ _ (by omega)], by rw [up2_s, up2_n _ _ _ (by omega), up2_n _ _ _ (by omega)], by rw [up2_n _ _ _ (by omega), up2_n _ _ _ (by omega), up2_n _ _ _ (by omega)], fun a q1 q2 q3 q4 => by rw [up2_n _ _ _ q3, up2_n _ _ _ q2, up2_n _ _ _ q1]⟩⟩)
    · 
      refine z_if_eqT (pc := 13) C 41 dX7_lay_13 (by decide) (by decide) ?_
      refine z_ldc (pc := 41) C dX7_lay_41 wk_X7_100 ?_
      exact z_iret (pc := 43) C ρ dX7_lay_43 (⟨_, rfl, by simp only [r_lay, if_pos hb_1, if_neg hb_10], rfl, by simp only [g_lay, if_pos hb_1, if_neg hb_10]⟩)
  · 
    refine z_if_eqT (pc := 4) C 41 dX7_lay_4 (by decide) (by decide) ?_
    refine z_ldc (pc := 41) C dX7_lay_41 wk_X7_100 ?_
    exact z_iret (pc := 43) C ρ dX7_lay_43 (⟨_, rfl, by simp only [r_lay, if_neg hb_1], rfl, by simp only [g_lay, if_neg hb_1]⟩)
