/-! the class: sheets -/
def cC (B : Nat) (im : Mem) (s : Nat) (k z : Int32) (im' : Mem) : Prop := im' (B + 53 + 2 * s) = upd (upd (im (B + 53 + 2 * s)) 0 k) 1 z ∧ (∀ i, im' (B + 53 + 2 * s + 1) i = if i < 24 then 0 else im (B + 53 + 2 * s + 1) i) ∧ ∀ c, c ≠ B + 53 + 2 * s → c ≠ B + 53 + 2 * s + 1 → im' c = im c
def g_sheetC (B : Nat) (im : Mem) (x k w : Int32) (im' : Mem) : Prop := if isSh x then (if -1 ≤ k ∧ k ≤ nI 1 then (if k < 0 then cC B im x.toNatClampNeg k (r_sheet x k w) im' else if w ≤ nI 24 then (if 0 ≤ w then cC B im x.toNatClampNeg k (r_sheet x k w) im' else im' = im) else im' = im) else im' = im) else im' = im
theorem m1_lt {k : Int32} (h : -1 ≤ k ∧ k ≤ nI 1) : k < 0 ↔ k = -1 := by
  obtain ⟨h1, h2⟩ := h
  rw [Int32.le_iff_toInt_le] at h1
  rw [Int32.lt_iff_toInt_lt, ← Int32.toInt_inj, Int32.toInt_zero]
  rw [show (-1 : Int32).toInt = -1 by decide] at *
  omega
theorem held_sz {w : Int32} (h1 : w ≤ nI 24) (h2 : 0 ≤ w) : s_mx (nI 0) (s_mn w (nI 24)) = w := by
  rw [Int32.le_iff_toInt_le, nI_toInt (by decide)] at h1
  rw [Int32.le_iff_toInt_le, Int32.toInt_zero] at h2
  rw [← Int32.toInt_inj, mx_toI, mn_toI, nI_toInt (by decide), nI_toInt (by decide)]
  split <;> split <;> omega
theorem clamp_of_le {w : Int32} (h1 : w ≤ nI 24) (h2 : 0 ≤ w) : ∃ z, z ≤ 24 ∧ w = nI z := by
  obtain ⟨j, hj, e⟩ := inR_nI (k := 24) (x := w) ⟨by rw [Int32.le_iff_toInt_le, Int32.toInt_zero] at h2; exact h2, by rw [Int32.le_iff_toInt_le, nI_toInt (by decide)] at h1; exact h1⟩
  exact ⟨j, hj, e⟩
set_option maxRecDepth 100000 in
set_option maxHeartbeats 4000000 in
theorem c6_sheet (l : Launch) (E : Ex) (S : Sx) (im : Mem) (B : Nat) (hC : CL S B) (x k w : Int32) : Mt l E yX6_sheet cX6_sheet 4 (some .int) 3 0 0 [.ref B, .int x, .int k, .int w] S im (pI (pQ S (r_sheet x k w) (g_sheetC B im x k w))) := by
  refine Mt.of (by decide +kernel) rfl rfl (Nat.le_of_ble_eq_true rfl) ?_
  intro κ hκ C ρ
  subst hκ
  show V E κ 4 0 0 0 [some (.ref B), some (.int x), some (.int k), some (.int w)] [] S im
  refine z_iload_n (pc := 0) C dX6_sheet_0 rfl ?_
  refine kX6_185 (pc := 1) C dX6_sheet_1 (c6_isSheet κ.2.1 E S im (x)) (by decide) (Nat.le_of_ble_eq_true rfl) (Nat.le_refl _) (Nat.le_refl _) (fun v_1 S_1 im_1 h_1 => ?_)
  rcases h_1 with ⟨hb_1, rfl, rfl, rfl⟩ | ⟨hb_1, rfl, rfl, rfl⟩
  · 
    obtain ⟨s0, hs00, hs0, rfl⟩ := (rng (by decide) (by decide)).mp hb_1
    have hcs0 : (nI s0).toNatClampNeg = s0 := nI_clamp (by omega)
    refine z_if_eqF (pc := 4) C 16 dX6_sheet_4 (by decide) (by decide) ?_
    refine z_iload_n (pc := 7) C dX6_sheet_7 rfl ?_
    refine z_iconst (v := -1) (pc := 8) C dX6_sheet_8 (by decide) ?_
    refine z_iconstN (pc := 9) C 1 dX6_sheet_9 ?_
    refine kX6_56 (pc := 10) C dX6_sheet_10 (c6_within κ.2.1 E S im k (-1) (nI 1)) (by decide) (Nat.le_of_ble_eq_true rfl) (Nat.le_refl _) (Nat.le_refl _) (fun v_10 S_10 im_10 h_10 => ?_)
    rcases h_10 with ⟨hb_10, rfl, rfl, rfl⟩ | ⟨hb_10, rfl, rfl, rfl⟩
    · 
      refine z_if_neT (pc := 13) C 19 dX6_sheet_13 (by decide) (by decide) ?_
      refine z_iload_n (pc := 19) C dX6_sheet_19 rfl ?_
      refine z_iconst (v := -1) (pc := 20) C dX6_sheet_20 (by decide) ?_
      refine z_icmp_ne (pc := 21) C 37 dX6_sheet_21 (by decide) (fun c_21 => ?_) (fun c_21 => ?_)
      · 
        refine z_iload_n (pc := 37) C dX6_sheet_37 rfl ?_
        refine z_bipushN (pc := 38) C 24 (by decide) dX6_sheet_38 ?_
        refine z_icmp_le (pc := 40) C 46 dX6_sheet_40 (by decide) (fun c_40 => ?_) (fun c_40 => ?_)
        · 
          refine z_iload_n (pc := 46) C dX6_sheet_46 rfl ?_
          refine z_if_ge (pc := 47) C 53 dX6_sheet_47 (by decide) (fun c_47 => ?_) (fun c_47 => ?_)
          · 
            refine z_aload_n (pc := 53) C dX6_sheet_53 rfl ?_
            refine gX6_31 (pc := 54) C dX6_sheet_54 (cl_K hC) (cl_r5 hC) ?_
            refine z_iload_n (pc := 57) C dX6_sheet_57 rfl ?_
            refine z_aald (pc := 58) C dX6_sheet_58 (cl_a49 hC) (by decide) (cl_n49 hC) (by omega) (by decide) (hC.2.2.2.2.1 s0 (by omega)).1 ?_
            refine z_iload_n (pc := 59) C dX6_sheet_59 rfl ?_
            refine z_iload_n (pc := 60) C dX6_sheet_60 rfl ?_
            refine kX6_252 (pc := 61) C dX6_sheet_61 (c1_clear κ.2.1 E S im (B + 53 + 2 * s0) (hC.2.2.2.2.1 s0 (by omega)).2 (k) (w)) (hC.2.2.2.2.1 s0 (by omega)).2.1 (by decide) (Nat.le_of_ble_eq_true rfl) (Nat.le_refl _) (Nat.le_refl _) (fun S_61 im_61 h_61 => ?_)
            obtain ⟨rfl, g1, g2, g3⟩ := h_61
            refine z_iload_n (pc := 64) C dX6_sheet_64 rfl ?_
            exact z_iret (pc := 65) C ρ dX6_sheet_65 (⟨_, rfl, by rw [r_sheet, if_pos hb_1, if_pos hb_10, if_neg (fun h => c_21 ((m1_lt hb_10).mp h)), if_pos c_40, if_pos c_47], rfl, by rw [held_sz c_40 c_47] at g1; rw [g_sheetC, if_pos hb_1, if_pos hb_10, if_neg (fun h => c_21 ((m1_lt hb_10).mp h)), if_pos c_40, if_pos c_47, hcs0, r_sheet, if_pos hb_1, if_pos hb_10, if_neg (fun h => c_21 ((m1_lt hb_10).mp h)), if_pos c_40, if_pos c_47]; exact ⟨g1, g2, g3⟩⟩)
          · 
            refine z_ldc (pc := 50) C dX6_sheet_50 wk_X6_255 ?_
            exact z_iret (pc := 52) C ρ dX6_sheet_52 (⟨_, rfl, by rw [r_sheet, if_pos hb_1, if_pos hb_10, if_neg (fun h => c_21 ((m1_lt hb_10).mp h)), if_pos c_40, if_neg c_47], rfl, by rw [g_sheetC, if_pos hb_1, if_pos hb_10, if_neg (fun h => c_21 ((m1_lt hb_10).mp h)), if_pos c_40, if_neg c_47]⟩)
        · 
          refine z_ldc (pc := 43) C dX6_sheet_43 wk_X6_60 ?_
          exact z_iret (pc := 45) C ρ dX6_sheet_45 (⟨_, rfl, by rw [r_sheet, if_pos hb_1, if_pos hb_10, if_neg (fun h => c_21 ((m1_lt hb_10).mp h)), if_neg c_40], rfl, by rw [g_sheetC, if_pos hb_1, if_pos hb_10, if_neg (fun h => c_21 ((m1_lt hb_10).mp h)), if_neg c_40]⟩)
      · 
        refine z_aload_n (pc := 24) C dX6_sheet_24 rfl ?_
        refine gX6_31 (pc := 25) C dX6_sheet_25 (cl_K hC) (cl_r5 hC) ?_
        refine z_iload_n (pc := 28) C dX6_sheet_28 rfl ?_
        refine z_aald (pc := 29) C dX6_sheet_29 (cl_a49 hC) (by decide) (cl_n49 hC) (by omega) (by decide) (hC.2.2.2.2.1 s0 (by omega)).1 ?_
        refine z_iconst (v := -1) (pc := 30) C dX6_sheet_30 (by decide) ?_
        refine z_iconstN (pc := 31) C 0 dX6_sheet_31 ?_
        refine kX6_252 (pc := 32) C dX6_sheet_32 (c1_clear κ.2.1 E S im (B + 53 + 2 * s0) (hC.2.2.2.2.1 s0 (by omega)).2 (-1) (nI 0)) (hC.2.2.2.2.1 s0 (by omega)).2.1 (by decide) (Nat.le_of_ble_eq_true rfl) (Nat.le_refl _) (Nat.le_refl _) (fun S_32 im_32 h_32 => ?_)
        obtain ⟨rfl, g1, g2, g3⟩ := h_32
        refine z_iconstN (pc := 35) C 0 dX6_sheet_35 ?_
        exact z_iret (pc := 36) C ρ dX6_sheet_36 (⟨_, rfl, by rw [r_sheet, if_pos hb_1, if_pos hb_10, if_pos ((m1_lt hb_10).mpr c_21)], rfl, by rw [g_sheetC, if_pos hb_1, if_pos hb_10, if_pos ((m1_lt hb_10).mpr c_21), hcs0, r_sheet, if_pos hb_1, if_pos hb_10, if_pos ((m1_lt hb_10).mpr c_21), c_21]; exact ⟨g1, g2, g3⟩⟩)
    · 
      refine z_if_neF (pc := 13) C 19 dX6_sheet_13 (by decide) (by decide) ?_
      refine z_ldc (pc := 16) C dX6_sheet_16 wk_X6_60 ?_
      exact z_iret (pc := 18) C ρ dX6_sheet_18 (⟨_, rfl, by simp only [r_sheet, if_pos hb_1, if_neg hb_10], rfl, by simp only [g_sheetC, if_pos hb_1, if_neg hb_10]⟩)
  · 
    refine z_if_eqT (pc := 4) C 16 dX6_sheet_4 (by decide) (by decide) ?_
    refine z_ldc (pc := 16) C dX6_sheet_16 wk_X6_60 ?_
    exact z_iret (pc := 18) C ρ dX6_sheet_18 (⟨_, rfl, by simp only [r_sheet, if_neg hb_1], rfl, by simp only [g_sheetC, if_neg hb_1]⟩)
def g_markC (B : Nat) (im : Mem) (x so sz p w : Int32) (im' : Mem) : Prop := if r_mark x so sz p w = nI 1 then im' = up2 im (B + 53 + 2 * x.toNatClampNeg + 1) p.toNatClampNeg (if so = 0 then w.toInt16.toInt32 else w) else im' = im
set_option maxRecDepth 100000 in
set_option maxHeartbeats 4000000 in
theorem c6_mark (l : Launch) (E : Ex) (S : Sx) (im : Mem) (B : Nat) (hC : CL S B) (so sz ce : Nat → Int32) (hsh : SHS im B so sz ce) (x p w : Int32) : Mt l E yX6_mark cX6_mark 5 (some .int) 3 0 0 [.ref B, .int x, .int p, .int w] S im (pI (pQ S (r_mark x (so x.toNatClampNeg) (sz x.toNatClampNeg) p w) (g_markC B im x (so x.toNatClampNeg) (sz x.toNatClampNeg) p w))) := by
  refine Mt.of (by decide +kernel) rfl rfl (Nat.le_of_ble_eq_true rfl) ?_
  intro κ hκ C ρ
  subst hκ
  show V E κ 5 0 0 0 [some (.ref B), some (.int x), some (.int p), some (.int w), none] [] S im
  refine z_iload_n (pc := 0) C dX6_mark_0 rfl ?_
  refine kX6_185 (pc := 1) C dX6_mark_1 (c6_isSheet κ.2.1 E S im (x)) (by decide) (Nat.le_of_ble_eq_true rfl) (Nat.le_refl _) (Nat.le_refl _) (fun v_1 S_1 im_1 h_1 => ?_)
  rcases h_1 with ⟨hb_1, rfl, rfl, rfl⟩ | ⟨hb_1, rfl, rfl, rfl⟩
  · 
    obtain ⟨s0, hs00, hs0, rfl⟩ := (rng (by decide) (by decide)).mp hb_1
    have hcs0 : (nI s0).toNatClampNeg = s0 := nI_clamp (by omega)
    obtain ⟨⟨q1s0, q2s0, q3s0⟩, ⟨zs0, hzs0, ezs0⟩, q4s0, q5s0⟩ := hsh s0 (by omega)
    refine z_if_neT (pc := 4) C 10 dX6_mark_4 (by decide) (by decide) ?_
    refine z_aload_n (pc := 10) C dX6_mark_10 rfl ?_
    refine gX6_31 (pc := 11) C dX6_mark_11 (cl_K hC) (cl_r5 hC) ?_
    refine z_iload_n (pc := 14) C dX6_mark_14 rfl ?_
    refine z_aald (pc := 15) C dX6_mark_15 (cl_a49 hC) (by decide) (cl_n49 hC) (by omega) (by decide) (hC.2.2.2.2.1 s0 (by omega)).1 ?_
    refine z_astore (pc := 16) C dX6_mark_16 (by decide) rfl ?_
    refine z_aload (pc := 18) C dX6_mark_18 rfl ?_
    refine kX6_188 (pc := 20) C dX6_mark_20 (c1_isMissing κ.2.1 E S im (B + 53 + 2 * s0) (hC.2.2.2.2.1 s0 (by omega)).2) (hC.2.2.2.2.1 s0 (by omega)).2.1 (by decide) (Nat.le_of_ble_eq_true rfl) (Nat.le_refl _) (Nat.le_refl _) (fun v_20 S_20 im_20 h_20 => ?_)
    rcases h_20 with ⟨hb_20, rfl, rfl, rfl⟩ | ⟨hb_20, rfl, rfl, rfl⟩
    · 
      rw [q1s0] at hb_20
      refine z_if_eqF (pc := 23) C 29 dX6_mark_23 (by decide) (by decide) ?_
      refine z_ldc (pc := 26) C dX6_mark_26 wk_X6_192 ?_
      have hrm : r_mark (nI s0) (so s0) (sz s0) p w = -1000000011 := by rw [r_mark, if_pos hb_1, if_neg (by rw [hb_20]; decide)]
      exact z_iret (pc := 28) C ρ dX6_mark_28 (⟨_, rfl, by rw [hcs0]; exact hrm, rfl, by rw [g_markC, hcs0, if_neg (by rw [hrm]; decide)]⟩)
    · 
      rw [q1s0] at hb_20
      have hges0 : 0 ≤ so s0 := so_ge q4s0 hb_20
      refine z_if_eqT (pc := 23) C 29 dX6_mark_23 (by decide) (by decide) ?_
      refine z_aload (pc := 29) C dX6_mark_29 rfl ?_
      refine z_iload_n (pc := 31) C dX6_mark_31 rfl ?_
      refine kX6_256 (pc := 32) C dX6_mark_32 (c1_hasPlace κ.2.1 E S im (B + 53 + 2 * s0) (hC.2.2.2.2.1 s0 (by omega)).2 zs0 hzs0 (q2s0.trans ezs0) p) (hC.2.2.2.2.1 s0 (by omega)).2.1 (by decide) (Nat.le_of_ble_eq_true rfl) (Nat.le_refl _) (Nat.le_refl _) (fun v_32 S_32 im_32 h_32 => ?_)
      rcases h_32 with ⟨hb_32, rfl, rfl, rfl⟩ | ⟨hb_32, rfl, rfl, rfl⟩
      · 
        obtain ⟨p0, hp0, rfl⟩ := (in_sz (by omega)).mp hb_32
        have hcp : (nI p0).toNatClampNeg = p0 := nI_clamp (by omega)
        refine z_if_neT (pc := 35) C 42 dX6_mark_35 (by decide) (by decide) ?_
        refine z_aload (pc := 42) C dX6_mark_42 rfl ?_
        refine gX6_260 (pc := 44) C dX6_mark_44 (hC.2.2.2.2.1 s0 (by omega)).2.1 ?_
        refine z_eqi (y := so s0) (q1s0) ?_
        refine z_if_ne (pc := 47) C 70 dX6_mark_47 (by decide) (fun c_47 => ?_) (fun c_47 => ?_)
        · 
          have hso1 : so s0 = nI 1 := (q4s0.resolve_left hb_20).resolve_left c_47
          refine z_iload_n (pc := 70) C dX6_mark_70 rfl ?_
          refine z_ldc (pc := 71) C dX6_mark_71 wk_X6_178 ?_
          refine z_icmp_eq (pc := 73) C 92 dX6_mark_73 (by decide) (fun c_73 => ?_) (fun c_73 => ?_)
          · 
            refine z_aload (pc := 92) C dX6_mark_92 rfl ?_
            refine gX6_263 (pc := 94) C dX6_mark_94 (hC.2.2.2.2.1 s0 (by omega)).2.1 (hC.2.2.2.2.1 s0 (by omega)).2.2.1 ?_
            refine z_iload_n (pc := 97) C dX6_mark_97 rfl ?_
            refine z_iload_n (pc := 98) C dX6_mark_98 rfl ?_
            refine z_iast (pc := 99) C dX6_mark_99 (hC.2.2.2.2.1 s0 (by omega)).2.2.2.1 (hC.2.2.2.2.1 s0 (by omega)).2.2.2.2 (by omega) (by decide) ?_
            refine z_iconstN (pc := 100) C 1 dX6_mark_100 ?_
            have hrm : r_mark (nI s0) (so s0) (sz s0) (nI p0) w = nI 1 := by rw [r_mark, if_pos hb_1, if_pos hges0, if_pos (by rw [ezs0]; exact hb_32), if_neg c_47, if_pos hso1, if_pos c_73]
            exact z_iret (pc := 101) C ρ dX6_mark_101 (⟨_, rfl, by rw [hcs0]; exact hrm, rfl, by rw [g_markC, hcs0, if_pos hrm, if_neg c_47, hcp]⟩)
          · 
            refine z_iload_n (pc := 76) C dX6_mark_76 rfl ?_
            refine z_ldcw (pc := 77) C dX6_mark_77 wk_X6_266 ?_
            refine z_ldcw (pc := 80) C dX6_mark_80 wk_X6_267 ?_
            refine kX6_56 (pc := 83) C dX6_mark_83 (c6_within κ.2.1 E S im w (-99999) 99999) (by decide) (Nat.le_of_ble_eq_true rfl) (Nat.le_refl _) (Nat.le_refl _) (fun v_83 S_83 im_83 h_83 => ?_)
            rcases h_83 with ⟨hb_83, rfl, rfl, rfl⟩ | ⟨hb_83, rfl, rfl, rfl⟩
            · 
              refine z_if_neT (pc := 86) C 92 dX6_mark_86 (by decide) (by decide) ?_
              refine z_aload (pc := 92) C dX6_mark_92 rfl ?_
              refine gX6_263 (pc := 94) C dX6_mark_94 (hC.2.2.2.2.1 s0 (by omega)).2.1 (hC.2.2.2.2.1 s0 (by omega)).2.2.1 ?_
              refine z_iload_n (pc := 97) C dX6_mark_97 rfl ?_
              refine z_iload_n (pc := 98) C dX6_mark_98 rfl ?_
              refine z_iast (pc := 99) C dX6_mark_99 (hC.2.2.2.2.1 s0 (by omega)).2.2.2.1 (hC.2.2.2.2.1 s0 (by omega)).2.2.2.2 (by omega) (by decide) ?_
              refine z_iconstN (pc := 100) C 1 dX6_mark_100 ?_
              have hrm : r_mark (nI s0) (so s0) (sz s0) (nI p0) w = nI 1 := by rw [r_mark, if_pos hb_1, if_pos hges0, if_pos (by rw [ezs0]; exact hb_32), if_neg c_47, if_pos hso1, if_neg c_73, if_pos hb_83]
              exact z_iret (pc := 101) C ρ dX6_mark_101 (⟨_, rfl, by rw [hcs0]; exact hrm, rfl, by rw [g_markC, hcs0, if_pos hrm, if_neg c_47, hcp]⟩)
            · 
              refine z_if_neF (pc := 86) C 92 dX6_mark_86 (by decide) (by decide) ?_
              refine z_ldc (pc := 89) C dX6_mark_89 wk_X6_60 ?_
              have hrm : r_mark (nI s0) (so s0) (sz s0) (nI p0) w = -1000000001 := by rw [r_mark, if_pos hb_1, if_pos hges0, if_pos (by rw [ezs0]; exact hb_32), if_neg c_47, if_pos hso1, if_neg c_73, if_neg hb_83]
              exact z_iret (pc := 91) C ρ dX6_mark_91 (⟨_, rfl, by rw [hcs0]; exact hrm, rfl, by rw [g_markC, hcs0, if_neg (by rw [hrm]; decide)]⟩)
        · 
          refine z_iload_n (pc := 50) C dX6_mark_50 rfl ?_
          refine z_ldc (pc := 51) C dX6_mark_51 wk_X6_178 ?_
          refine z_icmp_ne (pc := 53) C 59 dX6_mark_53 (by decide) (fun c_53 => ?_) (fun c_53 => ?_)
          · 
            refine z_aload (pc := 59) C dX6_mark_59 rfl ?_
            refine gX6_263 (pc := 61) C dX6_mark_61 (hC.2.2.2.2.1 s0 (by omega)).2.1 (hC.2.2.2.2.1 s0 (by omega)).2.2.1 ?_
            refine z_iload_n (pc := 64) C dX6_mark_64 rfl ?_
            refine z_iload_n (pc := 65) C dX6_mark_65 rfl ?_
            refine z_i2s (pc := 66) C dX6_mark_66 ?_
            refine z_iast (pc := 67) C dX6_mark_67 (hC.2.2.2.2.1 s0 (by omega)).2.2.2.1 (hC.2.2.2.2.1 s0 (by omega)).2.2.2.2 (by omega) (by decide) ?_
            refine z_iconstN (pc := 68) C 1 dX6_mark_68 ?_
            have hrm : r_mark (nI s0) (so s0) (sz s0) (nI p0) w = nI 1 := by rw [r_mark, if_pos hb_1, if_pos hges0, if_pos (by rw [ezs0]; exact hb_32), if_pos c_47, if_neg c_53]
            exact z_iret (pc := 69) C ρ dX6_mark_69 (⟨_, rfl, by rw [hcs0]; exact hrm, rfl, by rw [g_markC, hcs0, if_pos hrm, if_pos c_47, hcp]⟩)
          · 
            refine z_ldc (pc := 56) C dX6_mark_56 wk_X6_101 ?_
            have hrm : r_mark (nI s0) (so s0) (sz s0) (nI p0) w = -1000000012 := by rw [r_mark, if_pos hb_1, if_pos hges0, if_pos (by rw [ezs0]; exact hb_32), if_pos c_47, if_pos c_53]
            exact z_iret (pc := 58) C ρ dX6_mark_58 (⟨_, rfl, by rw [hcs0]; exact hrm, rfl, by rw [g_markC, hcs0, if_neg (by rw [hrm]; decide)]⟩)
      · 
        refine z_if_neF (pc := 35) C 42 dX6_mark_35 (by decide) (by decide) ?_
        refine z_ldcw (pc := 38) C dX6_mark_38 wk_X6_259 ?_
        have hrm : r_mark (nI s0) (so s0) (sz s0) p w = -1000000013 := by rw [r_mark, if_pos hb_1, if_pos hges0, if_neg (by rw [ezs0]; exact hb_32)]
        exact z_iret (pc := 41) C ρ dX6_mark_41 (⟨_, rfl, by rw [hcs0]; exact hrm, rfl, by rw [g_markC, hcs0, if_neg (by rw [hrm]; decide)]⟩)
  · 
    refine z_if_neF (pc := 4) C 10 dX6_mark_4 (by decide) (by decide) ?_
    refine z_ldc (pc := 7) C dX6_mark_7 wk_X6_60 ?_
    exact z_iret (pc := 9) C ρ dX6_mark_9 (⟨_, rfl, by rw [r_mark, if_neg hb_1], rfl, by rw [g_markC, if_neg (by rw [r_mark, if_neg hb_1]; decide)]⟩)
set_option maxRecDepth 100000 in
set_option maxHeartbeats 4000000 in
theorem c6_pour (l : Launch) (E : Ex) (S : Sx) (im : Mem) (B : Nat) (hC : CL S B) (X : Nat) (hX : B + 107 ≤ X) (f : Nat → Int32) (n n7 : Nat) (hst : ST S im (B + 1) X f n n7) (so sz ce : Nat → Int32) (hsh : SHS im B so sz ce) (x : Int32) : Mt l E yX6_pour cX6_pour 6 (some .int) 3 0 0 [.ref B, .int x] S im (pI (pC S im B X n7 (r_pourS f (fun j => ce (24 * x.toNatClampNeg + j)) n x (so x.toNatClampNeg) (sz x.toNatClampNeg)) (f_pourS f (fun j => ce (24 * x.toNatClampNeg + j)) n x (so x.toNatClampNeg) (sz x.toNatClampNeg)))) := by
  refine Mt.of (by decide +kernel) rfl rfl (Nat.le_of_ble_eq_true rfl) ?_
  intro κ hκ C ρ
  subst hκ
  show V E κ 6 0 0 0 [some (.ref B), some (.int x), none, none, none, none] [] S im
  have hn10 := hst.1.1.1
  have h14 := hst.2.1.1.1
  have hr := hst.1
  have hT := hst.2.1
  have hg := hst.2.2
  have hX1 : B + 1 + 15 ≤ X := by omega
  refine z_iload_n (pc := 0) C dX6_pour_0 rfl ?_
  refine kX6_185 (pc := 1) C dX6_pour_1 (c6_isSheet κ.2.1 E S im (x)) (by decide) (Nat.le_of_ble_eq_true rfl) (Nat.le_refl _) (Nat.le_refl _) (fun v_1 S_1 im_1 h_1 => ?_)
  rcases h_1 with ⟨hb_1, rfl, rfl, rfl⟩ | ⟨hb_1, rfl, rfl, rfl⟩
  · 
    obtain ⟨s0, hs00, hs0, rfl⟩ := (rng (by decide) (by decide)).mp hb_1
    have hcs0 : (nI s0).toNatClampNeg = s0 := nI_clamp (by omega)
    obtain ⟨⟨q1s0, q2s0, q3s0⟩, ⟨zs0, hzs0, ezs0⟩, q4s0, q5s0⟩ := hsh s0 (by omega)
    refine z_if_neT (pc := 4) C 10 dX6_pour_4 (by decide) (by decide) ?_
    refine z_aload_n (pc := 10) C dX6_pour_10 rfl ?_
    refine gX6_31 (pc := 11) C dX6_pour_11 (cl_K hC) (cl_r5 hC) ?_
    refine z_iload_n (pc := 14) C dX6_pour_14 rfl ?_
    refine z_aald (pc := 15) C dX6_pour_15 (cl_a49 hC) (by decide) (cl_n49 hC) (by omega) (by decide) (hC.2.2.2.2.1 s0 (by omega)).1 ?_
    refine z_astore_n (pc := 16) C dX6_pour_16 (by decide) rfl ?_
    refine z_aload_n (pc := 17) C dX6_pour_17 rfl ?_
    refine kX6_188 (pc := 18) C dX6_pour_18 (c1_isMissing κ.2.1 E S im (B + 53 + 2 * s0) (hC.2.2.2.2.1 s0 (by omega)).2) (hC.2.2.2.2.1 s0 (by omega)).2.1 (by decide) (Nat.le_of_ble_eq_true rfl) (Nat.le_refl _) (Nat.le_refl _) (fun v_18 S_18 im_18 h_18 => ?_)
    rcases h_18 with ⟨hb_18, rfl, rfl, rfl⟩ | ⟨hb_18, rfl, rfl, rfl⟩
    · 
      rw [q1s0] at hb_18
      refine z_if_eqF (pc := 21) C 27 dX6_pour_21 (by decide) (by decide) ?_
      refine z_ldc (pc := 24) C dX6_pour_24 wk_X6_192 ?_
      exact z_iret (pc := 26) C ρ dX6_pour_26 (⟨_, rfl, by rw [r_pourS, if_pos hb_1, hcs0, if_neg (by rw [hb_18]; decide)], SX.rf, ⟨n, by rw [f_pourS, if_pos hb_1, hcs0, if_neg (by rw [hb_18]; decide)]; exact hst⟩, frC.rf⟩)
    · 
      rw [q1s0] at hb_18
      have hges0 : 0 ≤ so s0 := so_ge q4s0 hb_18
      obtain ⟨c, hc0⟩ : ∃ c : Nat → Int32, c = (fun j => ce (24 * s0 + j)) := ⟨_, rfl⟩
      have loop : ∀ (r i : Nat) (im' : Mem) (y5 : Option Value), i + r = n → ST S im' (B + 1) X (s_pr f c (min i zs0)).1 n n7 → frC B X im im' → V E κ 6 0 0 32 [some (.ref B), some (.int (nI s0)), some (.ref (B + 53 + 2 * s0)), some (.int ((s_pr f c (min i zs0)).2)), some (.int (nI i)), y5] [] S im' := by
        intro r
        induction r with
        | zero =>
          intro i im' y5 hi h' hfr
          refine z_iload (pc := 32) C dX6_pour_32 rfl ?_
          refine z_aload_n (pc := 34) C dX6_pour_34 rfl ?_
          refine gX6_10 (pc := 35) C dX6_pour_35 (cl_K hC) (cl_r0 hC) ?_
          refine gX6_61 (pc := 38) C dX6_pour_38 (sl_K (cl_s1 hC)) ?_
          refine z_eqi (y := nI n) (h'.1.1.2.2) ?_
          refine z_icmp_geT (pc := 41) C 110 dX6_pour_41 (by decide) (nI_le (by omega) (by omega)) ?_
          refine z_iload_n (pc := 110) C dX6_pour_110 rfl ?_
          exact z_iret (pc := 111) C ρ dX6_pour_111 (⟨_, rfl, by rw [r_pourS, if_pos hb_1, hcs0, if_pos hges0, ← hc0, ezs0, nI_clamp (by omega), Nat.min_comm, show n = i by omega], SX.rf, ⟨n, by rw [f_pourS, if_pos hb_1, hcs0, if_pos hges0, ← hc0, ezs0, nI_clamp (by omega), Nat.min_comm, show min n zs0 = min i zs0 by omega]; exact h'⟩, hfr⟩)
        | succ r ih =>
          intro i im' y5 hi h' hfr
          have hcel : ∀ j, j < 24 → im' (B + 53 + 2 * s0 + 1) j = c j := fun j hj => by rw [hfr _ (by omega) (by omega) (by omega), hc0]; exact q3s0 j hj
          refine z_iload (pc := 32) C dX6_pour_32 rfl ?_
          refine z_aload_n (pc := 34) C dX6_pour_34 rfl ?_
          refine gX6_10 (pc := 35) C dX6_pour_35 (cl_K hC) (cl_r0 hC) ?_
          refine gX6_61 (pc := 38) C dX6_pour_38 (sl_K (cl_s1 hC)) ?_
          refine z_eqi (y := nI n) (h'.1.1.2.2) ?_
          refine z_icmp_geF (pc := 41) C 110 dX6_pour_41 (by decide) (nI_ge (by omega) (by omega)) ?_
          refine z_aload_n (pc := 44) C dX6_pour_44 rfl ?_
          refine z_iload (pc := 45) C dX6_pour_45 rfl ?_
          refine kX6_268 (pc := 47) C dX6_pour_47 (c1_hasNumber κ.2.1 E S im' (B + 53 + 2 * s0) (hC.2.2.2.2.1 s0 (by omega)).2 zs0 hzs0 (by rw [hfr _ (by omega) (by omega) (by omega)]; exact q2s0.trans ezs0) (nI i)) (hC.2.2.2.2.1 s0 (by omega)).2.1 (by decide) (Nat.le_of_ble_eq_true rfl) (Nat.le_refl _) (Nat.le_refl _) (fun v_47 S_47 im_47 h_47 => ?_)
          rcases h_47 with ⟨hb_47, rfl, rfl, rfl⟩ | ⟨hb_47, rfl, rfl, rfl⟩
          · 
            have hiz : i < zs0 := by obtain ⟨j, hj, e⟩ := (in_sz (by omega)).mp hb_47.1; have := (nI_eq (by omega) (by omega)).mp e; omega
            have hne := hb_47.2
            rw [nI_clamp (by omega), hcel i (by omega)] at hne
            rw [show min i zs0 = i by omega] at h' ⊢
            refine z_if_eqF (pc := 50) C 104 dX6_pour_50 (by decide) (by decide) ?_
            refine z_aload_n (pc := 53) C dX6_pour_53 rfl ?_
            refine gX6_263 (pc := 54) C dX6_pour_54 (hC.2.2.2.2.1 s0 (by omega)).2.1 (hC.2.2.2.2.1 s0 (by omega)).2.2.1 ?_
            refine z_iload (pc := 57) C dX6_pour_57 rfl ?_
            refine z_iald (pc := 59) C dX6_pour_59 (hC.2.2.2.2.1 s0 (by omega)).2.2.2.1 (hC.2.2.2.2.1 s0 (by omega)).2.2.2.2 (by omega) (by decide) ?_
            refine z_eqi (y := c i) (hcel i (by omega)) ?_
            refine z_iconstN (pc := 60) C 0 dX6_pour_60 ?_
            refine z_bipushN (pc := 61) C 99 (by decide) dX6_pour_61 ?_
            refine kX6_271 (pc := 63) C dX6_pour_63 (c6_held κ.2.1 E S im' (c i) (nI 0) (nI 99)) (by decide) (Nat.le_of_ble_eq_true rfl) (Nat.le_refl _) (Nat.le_refl _) (fun v_63 S_63 im_63 h_63 => ?_)
            obtain ⟨rfl, rfl, rfl⟩ := h_63
            refine z_eqi (y := s_within (c i) (nI 0) (nI 99)) (held_within _ (by decide)) ?_
            refine z_istore (pc := 66) C dX6_pour_66 (by decide) rfl ?_
            refine z_iload (pc := 68) C dX6_pour_68 rfl ?_
            refine z_aload_n (pc := 70) C dX6_pour_70 rfl ?_
            refine gX6_10 (pc := 71) C dX6_pour_71 (cl_K hC) (cl_r0 hC) ?_
            refine gX6_73 (pc := 74) C dX6_pour_74 (sl_K (cl_s1 hC)) (sl_r0 (cl_s1 hC)) ?_
            refine z_iload (pc := 77) C dX6_pour_77 rfl ?_
            refine z_aald (pc := 79) C dX6_pour_79 (sl_a1 (cl_s1 hC)) (by decide) (sl_n1 (cl_s1 hC)) (by omega) (by decide) (sl_e (cl_s1 hC) (i := i) (by omega)) ?_
            refine gX6_111 (pc := 80) C dX6_pour_80 (sl_l (cl_s1 hC) (i := i) (by omega)) ?_
            refine z_eqi (y := (s_pr f c (i)).1 (8 + 7 * i + 3)) (h'.1.2.2 i (by omega) 3 (by decide)) ?_
            refine z_icmp_eq (pc := 83) C 89 dX6_pour_83 (by decide) (fun c_83 => ?_) (fun c_83 => ?_)
            · 
              refine z_aload_n (pc := 89) C dX6_pour_89 rfl ?_
              refine gX6_10 (pc := 90) C dX6_pour_90 (cl_K hC) (cl_r0 hC) ?_
              refine gX6_73 (pc := 93) C dX6_pour_93 (sl_K (cl_s1 hC)) (sl_r0 (cl_s1 hC)) ?_
              refine z_iload (pc := 96) C dX6_pour_96 rfl ?_
              refine z_aald (pc := 98) C dX6_pour_98 (sl_a1 (cl_s1 hC)) (by decide) (sl_n1 (cl_s1 hC)) (by omega) (by decide) (sl_e (cl_s1 hC) (i := i) (by omega)) ?_
              refine z_iload (pc := 99) C dX6_pour_99 rfl ?_
              refine pX6_111 (pc := 101) C dX6_pour_101 (sl_l (cl_s1 hC) (i := i) (by omega)) ?_
              refine z_iincN (pc := 104) C 1 dX6_pour_104 rfl (by decide) rfl ?_
              refine z_goto (pc := 107) C 32 dX6_pour_107 (by decide) ?_
              have e9 : (s_pr f c (min (i + 1) zs0)) = (upd (s_pr f c (i)).1 (8 + 7 * i + 3) (s_within (c i) (nI 0) (nI 99)), (s_pr f c (i)).2) := by rw [show min (i + 1) zs0 = i + 1 by omega, s_pr, s_to, if_neg hne, if_pos c_83.symm, nI_0, Int32.add_zero]
              have := ih (i + 1) _ (some (.int (s_within (c i) (nI 0) (nI 99)))) (by omega) (by rw [e9]; exact ST_lamp h' (by omega) (by decide) (fun h => by cases h) (fun h => by cases h) (fun h => by cases h) (fun _ => within_rng (by decide) (by decide)) (fun h => by cases h) hX1) (hfr.up (by omega))
              rw [e9] at this
              exact this
            · 
              refine z_iinc (pc := 86) C dX6_pour_86 rfl (by rw [show Int32.ofInt 1 = nI 1 from by decide]) (by decide) rfl ?_
              refine z_aload_n (pc := 89) C dX6_pour_89 rfl ?_
              refine gX6_10 (pc := 90) C dX6_pour_90 (cl_K hC) (cl_r0 hC) ?_
              refine gX6_73 (pc := 93) C dX6_pour_93 (sl_K (cl_s1 hC)) (sl_r0 (cl_s1 hC)) ?_
              refine z_iload (pc := 96) C dX6_pour_96 rfl ?_
              refine z_aald (pc := 98) C dX6_pour_98 (sl_a1 (cl_s1 hC)) (by decide) (sl_n1 (cl_s1 hC)) (by omega) (by decide) (sl_e (cl_s1 hC) (i := i) (by omega)) ?_
              refine z_iload (pc := 99) C dX6_pour_99 rfl ?_
              refine pX6_111 (pc := 101) C dX6_pour_101 (sl_l (cl_s1 hC) (i := i) (by omega)) ?_
              refine z_iincN (pc := 104) C 1 dX6_pour_104 rfl (by decide) rfl ?_
              refine z_goto (pc := 107) C 32 dX6_pour_107 (by decide) ?_
              have e9 : (s_pr f c (min (i + 1) zs0)) = (upd (s_pr f c (i)).1 (8 + 7 * i + 3) (s_within (c i) (nI 0) (nI 99)), (s_pr f c (i)).2 + nI 1) := by rw [show min (i + 1) zs0 = i + 1 by omega, s_pr, s_to, if_neg hne, if_neg (fun h => c_83 h.symm)]
              have := ih (i + 1) _ (some (.int (s_within (c i) (nI 0) (nI 99)))) (by omega) (by rw [e9]; exact ST_lamp h' (by omega) (by decide) (fun h => by cases h) (fun h => by cases h) (fun h => by cases h) (fun _ => within_rng (by decide) (by decide)) (fun h => by cases h) hX1) (hfr.up (by omega))
              rw [e9] at this
              exact this
          · 
            have e9 : (s_pr f c (min (i + 1) zs0)) = (s_pr f c (min i zs0)) := by
              by_cases hiz : i < zs0
              · rw [show min (i + 1) zs0 = i + 1 by omega, show min i zs0 = i by omega]
                have hne : c i = -1000000005 := Decidable.byContradiction (fun h => hb_47 ⟨(in_sz (by omega)).mpr ⟨i, hiz, rfl⟩, by rw [nI_clamp (by omega), hcel i (by omega)]; exact h⟩)
                rw [s_pr, s_to, if_pos hne, if_pos rfl, upd_id rfl, nI_0, Int32.add_zero]
              · rw [show min (i + 1) zs0 = min i zs0 by omega]
            refine z_if_eqT (pc := 50) C 104 dX6_pour_50 (by decide) (by decide) ?_
            refine z_iincN (pc := 104) C 1 dX6_pour_104 rfl (by decide) rfl ?_
            refine z_goto (pc := 107) C 32 dX6_pour_107 (by decide) ?_
            have := ih (i + 1) im' y5 (by omega) (by rw [e9]; exact h') hfr
            rw [e9] at this
            exact this
      refine z_if_eqT (pc := 21) C 27 dX6_pour_21 (by decide) (by decide) ?_
      refine z_iconstN (pc := 27) C 0 dX6_pour_27 ?_
      refine z_istore_n (pc := 28) C dX6_pour_28 (by decide) rfl ?_
      refine z_iconstN (pc := 29) C 0 dX6_pour_29 ?_
      refine z_istore (pc := 30) C dX6_pour_30 (by decide) rfl ?_
      have hl := loop n 0 im none (by omega) (by rw [Nat.zero_min]; exact hst) frC.rf
      rw [Nat.zero_min] at hl
      exact hl
  · 
    refine z_if_neF (pc := 4) C 10 dX6_pour_4 (by decide) (by decide) ?_
    refine z_ldc (pc := 7) C dX6_pour_7 wk_X6_60 ?_
    exact z_iret (pc := 9) C ρ dX6_pour_9 (⟨_, rfl, by simp only [r_pourS, if_neg hb_1], SX.rf, ⟨n, by simp only [f_pourS, if_neg hb_1]; exact hst⟩, frC.rf⟩)
set_option maxRecDepth 100000 in
set_option maxHeartbeats 4000000 in
theorem c6_reads (l : Launch) (E : Ex) (S : Sx) (im : Mem) (B : Nat) (hC : CL S B) (X : Nat) (hX : B + 107 ≤ X) (f : Nat → Int32) (n n7 : Nat) (hst : ST S im (B + 1) X f n n7) (so sz ce : Nat → Int32) (hsh : SHS im B so sz ce) (x : Int32) : Mt l E yX6_reads cX6_reads 5 (some .int) 3 0 0 [.ref B, .int x] S im (pI (pC S im B X n7 (r_reads f (fun j => ce (24 * x.toNatClampNeg + j)) n x (so x.toNatClampNeg) (sz x.toNatClampNeg)) (f))) := by
  refine Mt.of (by decide +kernel) rfl rfl (Nat.le_of_ble_eq_true rfl) ?_
  intro κ hκ C ρ
  subst hκ
  show V E κ 5 0 0 0 [some (.ref B), some (.int x), none, none, none] [] S im
  have hn10 := hst.1.1.1
  have h14 := hst.2.1.1.1
  have hr := hst.1
  have hT := hst.2.1
  have hg := hst.2.2
  have hX1 : B + 1 + 15 ≤ X := by omega
  refine z_iload_n (pc := 0) C dX6_reads_0 rfl ?_
  refine kX6_185 (pc := 1) C dX6_reads_1 (c6_isSheet κ.2.1 E S im (x)) (by decide) (Nat.le_of_ble_eq_true rfl) (Nat.le_refl _) (Nat.le_refl _) (fun v_1 S_1 im_1 h_1 => ?_)
  rcases h_1 with ⟨hb_1, rfl, rfl, rfl⟩ | ⟨hb_1, rfl, rfl, rfl⟩
  · 
    obtain ⟨s0, hs00, hs0, rfl⟩ := (rng (by decide) (by decide)).mp hb_1
    have hcs0 : (nI s0).toNatClampNeg = s0 := nI_clamp (by omega)
    obtain ⟨⟨q1s0, q2s0, q3s0⟩, ⟨zs0, hzs0, ezs0⟩, q4s0, q5s0⟩ := hsh s0 (by omega)
    refine z_if_neT (pc := 4) C 10 dX6_reads_4 (by decide) (by decide) ?_
    refine z_aload_n (pc := 10) C dX6_reads_10 rfl ?_
    refine gX6_31 (pc := 11) C dX6_reads_11 (cl_K hC) (cl_r5 hC) ?_
    refine z_iload_n (pc := 14) C dX6_reads_14 rfl ?_
    refine z_aald (pc := 15) C dX6_reads_15 (cl_a49 hC) (by decide) (cl_n49 hC) (by omega) (by decide) (hC.2.2.2.2.1 s0 (by omega)).1 ?_
    refine z_astore_n (pc := 16) C dX6_reads_16 (by decide) rfl ?_
    refine z_aload_n (pc := 17) C dX6_reads_17 rfl ?_
    refine kX6_188 (pc := 18) C dX6_reads_18 (c1_isMissing κ.2.1 E S im (B + 53 + 2 * s0) (hC.2.2.2.2.1 s0 (by omega)).2) (hC.2.2.2.2.1 s0 (by omega)).2.1 (by decide) (Nat.le_of_ble_eq_true rfl) (Nat.le_refl _) (Nat.le_refl _) (fun v_18 S_18 im_18 h_18 => ?_)
    rcases h_18 with ⟨hb_18, rfl, rfl, rfl⟩ | ⟨hb_18, rfl, rfl, rfl⟩
    · 
      rw [q1s0] at hb_18
      refine z_if_eqF (pc := 21) C 27 dX6_reads_21 (by decide) (by decide) ?_
      refine z_ldc (pc := 24) C dX6_reads_24 wk_X6_192 ?_
      exact z_iret (pc := 26) C ρ dX6_reads_26 (⟨_, rfl, by rw [r_reads, if_pos hb_1, hcs0, if_neg (by rw [hb_18]; decide)], SX.rf, ⟨n, hst⟩, frC.rf⟩)
    · 
      rw [q1s0] at hb_18
      have hges0 : 0 ≤ so s0 := so_ge q4s0 hb_18
      refine z_if_eqT (pc := 21) C 27 dX6_reads_21 (by decide) (by decide) ?_
      refine z_aload_n (pc := 27) C dX6_reads_27 rfl ?_
      refine gX6_10 (pc := 28) C dX6_reads_28 (cl_K hC) (cl_r0 hC) ?_
      refine kX6_138 (pc := 31) C dX6_reads_31 (c3_lineUp κ.2.1 E S im (B + 1) (cl_s1 hC) f n hr) (sl_K (cl_s1 hC)) (by decide) (Nat.le_of_ble_eq_true rfl) (Nat.le_refl _) (Nat.le_refl _) (fun S_31 im_31 h_31 => ?_)
      obtain ⟨rfl, hL, hcc⟩ := h_31
      obtain ⟨c, hc0⟩ : ∃ c : Nat → Int32, c = (fun j => ce (24 * s0 + j)) := ⟨_, rfl⟩
      have hcel : ∀ j, j < 24 → im_31 (B + 53 + 2 * s0 + 1) j = c j := fun j hj => by rw [hcc _ (by omega), hc0]; exact q3s0 j hj
      have h31 : ST S im_31 (B + 1) X f n n7 := ST_fr hst (fun a _ _ h => hcc a h) (fun a _ _ => hcc a (by omega))
      have loop : ∀ (r i : Nat) (y4 : Option Value), i + r = zs0 → s_rd f c n zs0 0 = s_rd f c n r i → V E κ 5 0 0 36 [some (.ref B), some (.int (nI s0)), some (.ref (B + 53 + 2 * s0)), some (.int (nI i)), y4] [] S im_31 := by
        intro r
        induction r with
        | zero =>
          intro i y4 hi hans
          refine z_iload_n (pc := 36) C dX6_reads_36 rfl ?_
          refine z_aload_n (pc := 37) C dX6_reads_37 rfl ?_
          refine gX6_274 (pc := 38) C dX6_reads_38 (hC.2.2.2.2.1 s0 (by omega)).2.1 ?_
          refine z_eqi (y := nI zs0) (by rw [hcc _ (by omega)]; exact q2s0.trans ezs0) ?_
          refine z_icmp_geT (pc := 41) C 101 dX6_reads_41 (by decide) (nI_le (by omega) (by omega)) ?_
          refine z_ldc (pc := 101) C dX6_reads_101 wk_X6_178 ?_
          exact z_iret (pc := 103) C ρ dX6_reads_103 (⟨_, rfl, by rw [r_reads, if_pos hb_1, hcs0, if_pos hges0, ← hc0, ezs0, nI_clamp (by omega), hans]; rfl, SX.rf, ⟨n, h31⟩, fun a h1 _ _ => hcc a (by omega)⟩)
        | succ r ih =>
          intro i y4 hi hans
          have tail : ∀ (b : Nat) (y4 : Option Value), b < 2 → (b = 1 ↔ (i < n ∧ c i = nI (ordA f n i))) → V E κ 5 0 0 78 [some (.ref B), some (.int (nI s0)), some (.ref (B + 53 + 2 * s0)), some (.int (nI i)), y4] [.int (nI b)] S im_31 := by
            intro b y4 hb2 hbb
            refine z_istore (pc := 78) C dX6_reads_78 (by decide) rfl ?_
            refine z_aload_n (pc := 80) C dX6_reads_80 rfl ?_
            refine z_iload_n (pc := 81) C dX6_reads_81 rfl ?_
            refine kX6_268 (pc := 82) C dX6_reads_82 (c1_hasNumber κ.2.1 E S im_31 (B + 53 + 2 * s0) (hC.2.2.2.2.1 s0 (by omega)).2 zs0 hzs0 (by rw [hcc _ (by omega)]; exact q2s0.trans ezs0) (nI i)) (hC.2.2.2.2.1 s0 (by omega)).2.1 (by decide) (Nat.le_of_ble_eq_true rfl) (Nat.le_refl _) (Nat.le_refl _) (fun v_82 S_82 im_82 h_82 => ?_)
            rcases h_82 with ⟨hb_82, rfl, rfl, rfl⟩ | ⟨hb_82, rfl, rfl, rfl⟩
            · 
              have hne := hb_82.2
              rw [nI_clamp (by omega), hcel i (by omega)] at hne
              refine z_if_eqF (pc := 85) C 95 dX6_reads_85 (by decide) (by decide) ?_
              refine z_iload (pc := 88) C dX6_reads_88 rfl ?_
              refine z_if_neN (pc := 90) C 95 dX6_reads_90 (by decide) (by omega) (fun c_90 => ?_) (fun c_90 => ?_)
              · 
                refine z_iincN (pc := 95) C 1 dX6_reads_95 rfl (by decide) rfl ?_
                refine z_goto (pc := 98) C 36 dX6_reads_98 (by decide) ?_
                exact ih (i + 1) _ (by omega) (by rw [hans, s_rd, if_neg hne, if_pos (hbb.mp (by omega))])
              · 
                refine z_iload_n (pc := 93) C dX6_reads_93 rfl ?_
                exact z_iret (pc := 94) C ρ dX6_reads_94 (⟨_, rfl, by rw [r_reads, if_pos hb_1, hcs0, if_pos hges0, ← hc0, ezs0, nI_clamp (by omega), hans, s_rd, if_neg hne, if_neg (fun h => by have := hbb.mpr h; omega)], SX.rf, ⟨n, h31⟩, fun a h1 _ _ => hcc a (by omega)⟩)
            · 
              have hne : c i = -1000000005 := Decidable.byContradiction (fun h => hb_82 ⟨(in_sz (by omega)).mpr ⟨i, by omega, rfl⟩, by rw [nI_clamp (by omega), hcel i (by omega)]; exact h⟩)
              refine z_if_eqT (pc := 85) C 95 dX6_reads_85 (by decide) (by decide) ?_
              refine z_iincN (pc := 95) C 1 dX6_reads_95 rfl (by decide) rfl ?_
              refine z_goto (pc := 98) C 36 dX6_reads_98 (by decide) ?_
              exact ih (i + 1) _ (by omega) (by rw [hans, s_rd, if_pos hne])
          refine z_iload_n (pc := 36) C dX6_reads_36 rfl ?_
          refine z_aload_n (pc := 37) C dX6_reads_37 rfl ?_
          refine gX6_274 (pc := 38) C dX6_reads_38 (hC.2.2.2.2.1 s0 (by omega)).2.1 ?_
          refine z_eqi (y := nI zs0) (by rw [hcc _ (by omega)]; exact q2s0.trans ezs0) ?_
          refine z_icmp_geF (pc := 41) C 101 dX6_reads_41 (by decide) (nI_ge (by omega) (by omega)) ?_
          refine z_aload_n (pc := 44) C dX6_reads_44 rfl ?_
          refine gX6_10 (pc := 45) C dX6_reads_45 (cl_K hC) (cl_r0 hC) ?_
          refine z_iload_n (pc := 48) C dX6_reads_48 rfl ?_
          refine kX6_70 (pc := 49) C dX6_reads_49 (c3_hasLamp κ.2.1 E S im_31 (B + 1) (cl_s1 hC) (nI i) n hn10 h31.1.1.2.2) (sl_K (cl_s1 hC)) (by decide) (Nat.le_of_ble_eq_true rfl) (Nat.le_refl _) (Nat.le_refl _) (fun v_49 S_49 im_49 h_49 => ?_)
          rcases h_49 with ⟨hb_49, rfl, rfl, rfl⟩ | ⟨hb_49, rfl, rfl, rfl⟩
          · 
            have hin : i < n := by obtain ⟨j, hj, e⟩ := (in_sz (by omega)).mp hb_49; have := (nI_eq (by omega) (by omega)).mp e; omega
            refine z_if_eqF (pc := 52) C 77 dX6_reads_52 (by decide) (by decide) ?_
            refine z_aload_n (pc := 55) C dX6_reads_55 rfl ?_
            refine gX6_263 (pc := 56) C dX6_reads_56 (hC.2.2.2.2.1 s0 (by omega)).2.1 (hC.2.2.2.2.1 s0 (by omega)).2.2.1 ?_
            refine z_iload_n (pc := 59) C dX6_reads_59 rfl ?_
            refine z_iald (pc := 60) C dX6_reads_60 (hC.2.2.2.2.1 s0 (by omega)).2.2.2.1 (hC.2.2.2.2.1 s0 (by omega)).2.2.2.2 (by omega) (by decide) ?_
            refine z_eqi (y := c i) (hcel i (by omega)) ?_
            refine z_aload_n (pc := 61) C dX6_reads_61 rfl ?_
            refine gX6_10 (pc := 62) C dX6_reads_62 (cl_K hC) (cl_r0 hC) ?_
            refine gX6_141 (pc := 65) C dX6_reads_65 (sl_K (cl_s1 hC)) (sl_r2 (cl_s1 hC)) ?_
            refine z_iload_n (pc := 68) C dX6_reads_68 rfl ?_
            refine z_iald (pc := 69) C dX6_reads_69 (sl_a2 (cl_s1 hC)) (sl_n2 (cl_s1 hC)) (by omega) (by decide) ?_
            refine z_eqi (y := nI (ordA f n i)) (hL i hin) ?_
            refine z_icmp_ne (pc := 70) C 77 dX6_reads_70 (by decide) (fun c_70 => ?_) (fun c_70 => ?_)
            · 
              refine z_iconstN (pc := 77) C 0 dX6_reads_77 ?_
              exact tail 0 _ (by omega) ⟨(fun h => absurd h (by decide)), fun h => absurd h.2 c_70⟩
            · 
              refine z_iconstN (pc := 73) C 1 dX6_reads_73 ?_
              refine z_goto (pc := 74) C 78 dX6_reads_74 (by decide) ?_
              exact tail 1 _ (by omega) ⟨fun _ => ⟨hin, c_70⟩, fun _ => rfl⟩
          · 
            refine z_if_eqT (pc := 52) C 77 dX6_reads_52 (by decide) (by decide) ?_
            refine z_iconstN (pc := 77) C 0 dX6_reads_77 ?_
            exact tail 0 _ (by omega) ⟨(fun h => absurd h (by decide)), fun h => absurd ((in_sz (by omega)).mpr ⟨i, h.1, rfl⟩) hb_49⟩
      refine z_iconstN (pc := 34) C 0 dX6_reads_34 ?_
      refine z_istore_n (pc := 35) C dX6_reads_35 (by decide) rfl ?_
      exact loop zs0 0 _ (by omega) rfl
  · 
    refine z_if_neF (pc := 4) C 10 dX6_reads_4 (by decide) (by decide) ?_
    refine z_ldc (pc := 7) C dX6_reads_7 wk_X6_60 ?_
    exact z_iret (pc := 9) C ρ dX6_reads_9 (⟨_, rfl, by simp only [r_reads, if_neg hb_1], SX.rf, ⟨n, hst⟩, frC.rf⟩)
