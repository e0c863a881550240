/-! the reference: offBy, oiled -/
section ZLG
variable {E : Ex} {κ : Kx} {cc : ByteArray} {own : String} {nL : Nat} {ret : Option FieldType} {d Rc Rs : Nat} {nm : String} {cells slots pc : Nat} {L : List (Option Value)} {st : List Value} {S : Sx} {im : Mem}
theorem z_lneg (C : Cx E κ cc nL own ret d Rc Rs nm) {x : Int64} (hd : decode cc pc = .ok (.lneg, 1)) (kk : V E κ nL cells slots (pc + 1) L (.long (-x) :: st) S im) : V E κ nL cells slots pc L (.long x :: st) S im := fun H ls locs h1 h2 h3 => lv_lneg C.1 C.2.1 hd (kk H ls locs h1 h2 h3)
theorem z_lcmp (C : Cx E κ cc nL own ret d Rc Rs nm) {x y : Int64} (hd : decode cc pc = .ok (.lcmp, 1)) (kk : V E κ nL cells slots (pc + 1) L (.int (lg_cmp x y) :: st) S im) : V E κ nL cells slots pc L (.long y :: .long x :: st) S im := fun H ls locs h1 h2 h3 => W.lcmp C.1 C.2.1 hd (kk H ls locs h1 h2 h3)
end ZLG
def s_ab (v e : Int32) : Int64 := if v = -1000000005 then 0 else if 0 ≤ lg_cmp (v.toInt64 - e.toInt64) 0 then v.toInt64 - e.toInt64 else -(v.toInt64 - e.toInt64)
def s_off (g c : Nat → Int32) (n n7 l0 : Nat) : Nat → Int64
  | 0 => 0
  | k + 1 => s_off g c n n7 l0 k + s_ab (c k) (s_nights g n n7 (-1) (k + 1) (8 + 7 * l0 + 4))
set_option maxRecDepth 100000 in
set_option maxHeartbeats 4000000 in
theorem m7_offBy (l : Launch) (E : Ex) (S : Sx) (im : Mem) (M : Nat) (hM : ML S M) (n n7 : Nat) (f : Nat → Int32) (hf0 : im (M + 1) = f) (hok : MOk f n n7) (hidle : im M 4 = -1) (x0 z : Nat) (hx0 : x0 < 4) (hz : z ≤ 24) (hze : im (M + 18) x0 = nI z) (l0 : Nat) (hl0 : l0 < n) (q : Nat) (hq : q < 100) (h6 : ∀ j, j < 78 → im (M + 6) j = f j) : Mt l E yX7_offBy cX7_offBy 10 (some .long) 6 0 0 [.ref M, .int (nI x0), .int (nI l0), .int (nI q)] S im (pJ (fun v S' im' => s_off (upd f (8 + 7 * l0 + 2) (nI q)) (fun j => im (M + 19) (24 * x0 + j)) n n7 l0 z = v ∧ S = S' ∧ im' (M + 1) = f ∧ frP M im im' ∧ (∀ j, j < 78 → im' (M + 6) j = f j) ∧ im' M = im M)) := by
  refine Mt.of (by decide +kernel) rfl rfl (Nat.le_of_ble_eq_true rfl) ?_
  intro κ hκ C ρ
  subst hκ
  show V E κ 10 0 0 0 [some (.ref M), some (.int (nI x0)), some (.int (nI l0)), some (.int (nI q)), none, none, none, none, none, none] [] S im
  have hn10 := hok.1.1
  have hsam : sam f (upd f (8 + 7 * l0 + 2) (nI q)) := sam.upd (by omega) (by omega) (by omega)
  have loop : ∀ (r k : Nat) (im' : Mem) (y7 y8 : Option Value), k + r = z → im' (M + 1) = s_nights (upd f (8 + 7 * l0 + 2) (nI q)) n n7 (-1) k → frP M im im' → (∀ j, j < 78 → im' (M + 6) j = f j) → (∀ j, im' M j = im M j) → V E κ 10 0 0 13 [some (.ref M), some (.int (nI x0)), some (.int (nI l0)), some (.int (nI q)), some (.long (s_off (upd f (8 + 7 * l0 + 2) (nI q)) (fun j => im (M + 19) (24 * x0 + j)) n n7 l0 k)), none, some (.int (nI k)), y7, y8, none] [] S im' := by
    intro r
    induction r with
    | zero =>
      intro k im' y7 y8 hk hm hfr h6' hM4'
      have hM4 : ∀ j, j ≠ 4 → im' M j = im M j := fun j _ => hM4' j
      have hsm : sam f (s_nights (upd f (8 + 7 * l0 + 2) (nI q)) n n7 (-1) k) := hsam.tr (sam_nights hok.1.1 k)
      refine z_iload (pc := 13) C dX7_offBy_13 rfl ?_
      refine z_aload_n (pc := 15) C dX7_offBy_15 rfl ?_
      refine gX7_67 (pc := 16) C dX7_offBy_16 (ml_K hM) (ml_r29 hM) ?_
      refine z_iload_n (pc := 19) C dX7_offBy_19 rfl ?_
      refine z_iald (pc := 20) C dX7_offBy_20 (ml_a18 hM) (ml_n18 hM) (by omega) (by decide) ?_
      refine z_eqi (y := nI z) (by rw [hfr _ (by omega) (by omega) (by omega) (by omega) (by omega) (by omega) (by omega) (by omega)]; exact hze) ?_
      refine z_icmp_geT (pc := 21) C 92 dX7_offBy_21 (by decide) (nI_le (by omega) (by omega)) ?_
      refine z_aload_n (pc := 92) C dX7_offBy_92 rfl ?_
      refine kX7_185 (pc := 93) C dX7_offBy_93 (m7_putsBack κ.2.1 E S im' M hM) (ml_K hM) (by decide) (Nat.le_of_ble_eq_true rfl) (Nat.le_refl _) (Nat.le_refl _) (fun S_93 im_93 h_93 => ?_)
      obtain ⟨rfl, hb1, hb2, hb3⟩ := h_93
      have hq := keep_back (im1 := im) (im2 := im') frP.rf rfl hidle hfr h6' hM4 hm hsm hb1 hb2 hb3
      refine z_lload (pc := 96) C dX7_offBy_96 rfl ?_
      exact z_lret (pc := 98) C ρ dX7_offBy_98 (⟨_, rfl, by rw [show k = z by omega], rfl, hq⟩)
    | succ r ih =>
      intro k im' y7 y8 hk hm hfr h6' hM4
      have hokk := hok.sam (hsam.tr (sam_nights (n7 := n7) (idle := -1) hok.1.1 k))
      refine z_iload (pc := 13) C dX7_offBy_13 rfl ?_
      refine z_aload_n (pc := 15) C dX7_offBy_15 rfl ?_
      refine gX7_67 (pc := 16) C dX7_offBy_16 (ml_K hM) (ml_r29 hM) ?_
      refine z_iload_n (pc := 19) C dX7_offBy_19 rfl ?_
      refine z_iald (pc := 20) C dX7_offBy_20 (ml_a18 hM) (ml_n18 hM) (by omega) (by decide) ?_
      refine z_eqi (y := nI z) (by rw [hfr _ (by omega) (by omega) (by omega) (by omega) (by omega) (by omega) (by omega) (by omega)]; exact hze) ?_
      refine z_icmp_geF (pc := 21) C 92 dX7_offBy_21 (by decide) (nI_ge (by omega) (by omega)) ?_
      refine z_aload_n (pc := 24) C dX7_offBy_24 rfl ?_
      refine kX7_163 (pc := 25) C dX7_offBy_25 (m7_night κ.2.1 E S im' M hM n n7 _ hm (-1) (by rw [hM4 _]; exact hidle) hokk) (ml_K hM) (by decide) (Nat.le_of_ble_eq_true rfl) (Nat.le_refl _) (Nat.le_refl _) (fun S_25 im_25 h_25 => ?_)
      obtain ⟨rfl, hm2, hfr2⟩ := h_25
      rw [show s_night (s_nights (upd f (8 + 7 * l0 + 2) (nI q)) n n7 (-1) k) n n7 (-1) = s_nights (upd f (8 + 7 * l0 + 2) (nI q)) n n7 (-1) (k + 1) from rfl] at hm2
      refine z_aload_n (pc := 28) C dX7_offBy_28 rfl ?_
      refine gX7_70 (pc := 29) C dX7_offBy_29 (ml_K hM) (ml_r30 hM) ?_
      refine z_bipushN (pc := 32) C 24 (by decide) dX7_offBy_32 ?_
      refine z_iload_n (pc := 34) C dX7_offBy_34 rfl ?_
      refine z_imulN (pc := 35) C dX7_offBy_35 ?_
      refine z_iload (pc := 36) C dX7_offBy_36 rfl ?_
      refine z_iaddN (pc := 38) C dX7_offBy_38 ?_
      refine z_iald (pc := 39) C dX7_offBy_39 (ml_a19 hM) (ml_n19 hM) (by omega) (by decide) ?_
      refine z_eqi (y := im (M + 19) (24 * x0 + k)) (by rw [hfr2 _ (by omega) (by omega) (by omega) (by omega) (by omega), hfr _ (by omega) (by omega) (by omega) (by omega) (by omega) (by omega) (by omega) (by omega)]) ?_
      refine z_istore (pc := 40) C dX7_offBy_40 (by decide) rfl ?_
      refine z_iload (pc := 42) C dX7_offBy_42 rfl ?_
      refine z_i2l (pc := 44) C dX7_offBy_44 ?_
      refine z_aload_n (pc := 45) C dX7_offBy_45 rfl ?_
      refine z_iload_n (pc := 46) C dX7_offBy_46 rfl ?_
      refine z_iconstN (pc := 47) C 4 dX7_offBy_47 ?_
      refine kX7_106 (pc := 48) C dX7_offBy_48 (m7_of κ.2.1 E S im_25 M hM l0 4 (by omega) (by decide)) (ml_K hM) (by decide) (Nat.le_of_ble_eq_true rfl) (Nat.le_refl _) (Nat.le_refl _) (fun v_48 S_48 im_48 h_48 => ?_)
      obtain ⟨rfl, rfl, rfl⟩ := h_48
      refine z_eqi (y := s_nights (upd f (8 + 7 * l0 + 2) (nI q)) n n7 (-1) (k + 1) (8 + 7 * l0 + 4)) (by rw [hm2]) ?_
      refine z_i2l (pc := 51) C dX7_offBy_51 ?_
      refine z_lsub (pc := 52) C dX7_offBy_52 ?_
      refine z_lstore (pc := 53) C dX7_offBy_53 (by decide) rfl ?_
      refine z_lload (pc := 55) C dX7_offBy_55 rfl ?_
      refine z_iload (pc := 57) C dX7_offBy_57 rfl ?_
      refine z_ldc (pc := 59) C dX7_offBy_59 wk_X7_91 ?_
      have j_83 : ∀ x83 : Int64, x83 = (s_ab (im (M + 19) (24 * x0 + k)) (s_nights (upd f (8 + 7 * l0 + 2) (nI q)) n n7 (-1) (k + 1) (8 + 7 * l0 + 4))) → V E κ 10 0 0 83 [some (.ref M), some (.int (nI x0)), some (.int (nI l0)), some (.int (nI q)), some (.long (s_off (upd f (8 + 7 * l0 + 2) (nI q)) (fun j => im (M + 19) (24 * x0 + j)) n n7 l0 k)), none, some (.int (nI k)), some (.int (im (M + 19) (24 * x0 + k))), some (.long (((im (M + 19) (24 * x0 + k)).toInt64) - ((s_nights (upd f (8 + 7 * l0 + 2) (nI q)) n n7 (-1) (k + 1) (8 + 7 * l0 + 4)).toInt64))), none] [.long x83, .long (s_off (upd f (8 + 7 * l0 + 2) (nI q)) (fun j => im (M + 19) (24 * x0 + j)) n n7 l0 k)] S im_25 := by
        intro x83 ex83
        refine z_ladd (pc := 83) C dX7_offBy_83 ?_
        refine z_lstore (pc := 84) C dX7_offBy_84 (by decide) rfl ?_
        refine z_iincN (pc := 86) C 1 dX7_offBy_86 rfl (by decide) rfl ?_
        refine z_goto (pc := 89) C 13 dX7_offBy_89 (by decide) ?_
        rw [show s_off (upd f (8 + 7 * l0 + 2) (nI q)) (fun j => im (M + 19) (24 * x0 + j)) n n7 l0 k + x83 = s_off (upd f (8 + 7 * l0 + 2) (nI q)) (fun j => im (M + 19) (24 * x0 + j)) n n7 l0 (k + 1) by rw [ex83, s_off]]
        exact ih (k + 1) im_25 _ _ (by omega) hm2 (hfr.tr hfr2.P) (fun j hj => by rw [hfr2 _ (by omega) (by omega) (by omega) (by omega) (by omega)]; exact h6' j hj) (fun j => by rw [hfr2 _ (by omega) (by omega) (by omega) (by omega) (by omega)]; exact hM4 j)
      refine z_icmp_ne (pc := 61) C 68 dX7_offBy_61 (by decide) (fun c_61 => ?_) (fun c_61 => ?_)
      · 
        refine z_lload (pc := 68) C dX7_offBy_68 rfl ?_
        refine z_lconst (v := 0) (pc := 70) C dX7_offBy_70 (by decide) ?_
        refine z_lcmp (pc := 71) C dX7_offBy_71 ?_
        refine z_if_ge (pc := 72) C 81 dX7_offBy_72 (by decide) (fun c_72 => ?_) (fun c_72 => ?_)
        · 
          refine z_lload (pc := 81) C dX7_offBy_81 rfl ?_
          exact j_83 _ (by simp only [s_ab, if_neg c_61, if_pos c_72])
        · 
          refine z_lload (pc := 75) C dX7_offBy_75 rfl ?_
          refine z_lneg (pc := 77) C dX7_offBy_77 ?_
          refine z_goto (pc := 78) C 83 dX7_offBy_78 (by decide) ?_
          exact j_83 _ (by simp only [s_ab, if_neg c_61, if_neg c_72])
      · 
        refine z_lconst (v := 0) (pc := 64) C dX7_offBy_64 (by decide) ?_
        refine z_goto (pc := 65) C 83 dX7_offBy_65 (by decide) ?_
        exact j_83 _ (by simp only [s_ab, if_pos c_61])
  refine z_aload_n (pc := 0) C dX7_offBy_0 rfl ?_
  refine z_iload_n (pc := 1) C dX7_offBy_1 rfl ?_
  refine z_iconstN (pc := 2) C 2 dX7_offBy_2 ?_
  refine z_iload_n (pc := 3) C dX7_offBy_3 rfl ?_
  refine kX7_96 (pc := 4) C dX7_offBy_4 (m7_put κ.2.1 E S im M hM l0 2 (by omega) (by decide) (nI q)) (ml_K hM) (by decide) (Nat.le_of_ble_eq_true rfl) (Nat.le_refl _) (Nat.le_refl _) (fun S_4 im_4 h_4 => ?_)
  obtain ⟨rfl, rfl⟩ := h_4
  refine z_lconst (v := 0) (pc := 7) C dX7_offBy_7 (by decide) ?_
  refine z_lstore (pc := 8) C dX7_offBy_8 (by decide) rfl ?_
  refine z_iconstN (pc := 10) C 0 dX7_offBy_10 ?_
  refine z_istore (pc := 11) C dX7_offBy_11 (by decide) rfl ?_
  exact loop z 0 _ _ _ (by omega) (by rw [up2_s, hf0]; rfl) frP.up (fun j hj => by rw [up2_n _ _ _ (by omega)]; exact h6 j hj) (fun j => by rw [up2_n _ _ _ (by omega)])
def s_bo (g : Nat → Int64) : Nat → Nat × Int64
  | 0 => (0, g 0)
  | k + 1 => if 0 ≤ lg_cmp (g (k + 1)) (s_bo g k).2 then s_bo g k else (k + 1, g (k + 1))
def r_oiled (f c : Nat → Int32) (n n7 : Nat) (x y w so sz : Int32) : Int32 := if isSh x then (if lmp n y then (if nI 0 ≤ w ∧ w ≤ nI 1 then (if 0 ≤ so then (if w = 0 then nI (s_bo (fun q => s_off (upd f (8 + 7 * y.toNatClampNeg + 2) (nI q)) c n n7 y.toNatClampNeg sz.toNatClampNeg) 99).1 else (s_bo (fun q => s_off (upd f (8 + 7 * y.toNatClampNeg + 2) (nI q)) c n n7 y.toNatClampNeg sz.toNatClampNeg) 99).2.toInt32) else -1000000011) else -1000000001) else -1000000001) else -1000000001
set_option maxRecDepth 100000 in
set_option maxHeartbeats 4000000 in
theorem m7_oiled (l : Launch) (E : Ex) (S : Sx) (im : Mem) (M : Nat) (hM : ML S M) (n n7 : Nat) (f : Nat → Int32) (hf0 : im (M + 1) = f) (hok : MOk f n n7) (hidle : im M 4 = -1) (hsh : ShOk M im) (x y w : Int32) : Mt l E yX7_oiled cX7_oiled 10 (some .int) 7 0 0 [.ref M, .int x, .int y, .int w] S im (pI (pP S im M (r_oiled f (fun j => im (M + 19) (24 * x.toNatClampNeg + j)) n n7 x y w (im (M + 17) x.toNatClampNeg) (im (M + 18) x.toNatClampNeg)) (f))) := by
  refine Mt.of (by decide +kernel) rfl rfl (Nat.le_of_ble_eq_true rfl) ?_
  intro κ hκ C ρ
  subst hκ
  show V E κ 10 0 0 0 [some (.ref M), some (.int x), some (.int y), some (.int w), none, none, none, none, none, none] [] S im
  refine z_iload_n (pc := 0) C dX7_oiled_0 rfl ?_
  refine kX7_195 (pc := 1) C dX7_oiled_1 (m7_isSheet κ.2.1 E S im x) (by decide) (Nat.le_of_ble_eq_true rfl) (Nat.le_refl _) (Nat.le_refl _) (fun v_1 S_1 im_1 h_1 => ?_)
  rcases h_1 with ⟨hb_1, rfl, rfl, rfl⟩ | ⟨hb_1, rfl, rfl, rfl⟩
  · 
    obtain ⟨x0, hx00, hx0, rfl⟩ := (rng (by decide) (by decide)).mp hb_1
    have hcx0 : (nI x0).toNatClampNeg = x0 := nI_clamp (by omega)
    obtain ⟨⟨z, hz, hze⟩, hso⟩ := hsh x0 (by omega)
    have hcz : (nI z).toNatClampNeg = z := nI_clamp (by omega)
    refine z_if_eqF (pc := 4) C 24 dX7_oiled_4 (by decide) (by decide) ?_
    refine z_aload_n (pc := 7) C dX7_oiled_7 rfl ?_
    refine z_iload_n (pc := 8) C dX7_oiled_8 rfl ?_
    refine kX7_121 (pc := 9) C dX7_oiled_9 (m7_isLmp κ.2.1 E S im M hM y n hok.1.1 (by rw [hf0]; exact hok.1.2)) (ml_K hM) (by decide) (Nat.le_of_ble_eq_true rfl) (Nat.le_refl _) (Nat.le_refl _) (fun v_9 S_9 im_9 h_9 => ?_)
    rcases h_9 with ⟨hb_9, rfl, rfl, rfl⟩ | ⟨hb_9, rfl, rfl, rfl⟩
    · 
      obtain ⟨l0, hl0, rfl⟩ := (in_lamp hok.1.1).mp hb_9
      have hn10 := hok.1.1
      have hcl : (nI l0).toNatClampNeg = l0 := nI_clamp (by omega)
      refine z_if_eqF (pc := 12) C 24 dX7_oiled_12 (by decide) (by decide) ?_
      refine z_iload_n (pc := 15) C dX7_oiled_15 rfl ?_
      refine z_iconstN (pc := 16) C 0 dX7_oiled_16 ?_
      refine z_iconstN (pc := 17) C 1 dX7_oiled_17 ?_
      refine kX7_92 (pc := 18) C dX7_oiled_18 (m7_in κ.2.1 E S im (w) (nI 0) (nI 1)) (by decide) (Nat.le_of_ble_eq_true rfl) (Nat.le_refl _) (Nat.le_refl _) (fun v_18 S_18 im_18 h_18 => ?_)
      rcases h_18 with ⟨hb_18, rfl, rfl, rfl⟩ | ⟨hb_18, rfl, rfl, rfl⟩
      · 
        refine z_if_neT (pc := 21) C 27 dX7_oiled_21 (by decide) (by decide) ?_
        refine z_aload_n (pc := 27) C dX7_oiled_27 rfl ?_
        refine gX7_64 (pc := 28) C dX7_oiled_28 (ml_K hM) (ml_r28 hM) ?_
        refine z_iload_n (pc := 31) C dX7_oiled_31 rfl ?_
        refine z_iald (pc := 32) C dX7_oiled_32 (ml_a17 hM) (ml_n17 hM) (by omega) (by decide) ?_
        refine z_if_ge (pc := 33) C 39 dX7_oiled_33 (by decide) (fun c_33 => ?_) (fun c_33 => ?_)
        · 
          have loop : ∀ (r k : Nat) (im' : Mem) (y8 : Option Value), k + r = 99 → im' (M + 1) = f → frP M im im' → (∀ j, j < 78 → im' (M + 6) j = f j) → im' M = im M → V E κ 10 0 0 58 [some (.ref M), some (.int (nI x0)), some (.int (nI l0)), some (.int w), some (.int (nI ((s_bo (fun q => s_off (upd f (8 + 7 * l0 + 2) (nI q)) (fun j => im (M + 19) (24 * x0 + j)) n n7 l0 z) k).1))), some (.long ((s_bo (fun q => s_off (upd f (8 + 7 * l0 + 2) (nI q)) (fun j => im (M + 19) (24 * x0 + j)) n n7 l0 z) k).2)), none, some (.int (nI (k + 1))), y8, none] [] S im' := by
            intro r
            induction r with
            | zero =>
              intro k im' y8 hk hm hfr h6 hMM
              refine z_iload (pc := 58) C dX7_oiled_58 rfl ?_
              refine z_bipushN (pc := 60) C 100 (by decide) dX7_oiled_60 ?_
              refine z_icmp_geT (pc := 62) C 115 dX7_oiled_62 (by decide) (nI_le (by omega) (by omega)) ?_
              refine z_iload_n (pc := 115) C dX7_oiled_115 rfl ?_
              refine z_if_ne (pc := 116) C 124 dX7_oiled_116 (by decide) (fun c_116 => ?_) (fun c_116 => ?_)
              · 
                refine z_lload (pc := 124) C dX7_oiled_124 rfl ?_
                refine z_l2i (pc := 126) C dX7_oiled_126 ?_
                exact z_iret (pc := 127) C ρ dX7_oiled_127 (⟨_, rfl, by rw [r_oiled, if_pos hb_1, if_pos hb_9, if_pos hb_18, hcx0, hcl, if_pos c_33, hze, hcz, show 99 = k by omega]; simp only [if_neg c_116], rfl, hm, hfr⟩)
              · 
                refine z_iload (pc := 119) C dX7_oiled_119 rfl ?_
                refine z_goto (pc := 121) C 127 dX7_oiled_121 (by decide) ?_
                exact z_iret (pc := 127) C ρ dX7_oiled_127 (⟨_, rfl, by rw [r_oiled, if_pos hb_1, if_pos hb_9, if_pos hb_18, hcx0, hcl, if_pos c_33, hze, hcz, show 99 = k by omega]; simp only [if_pos c_116], rfl, hm, hfr⟩)
            | succ r ih =>
              intro k im' y8 hk hm hfr h6 hMM
              refine z_iload (pc := 58) C dX7_oiled_58 rfl ?_
              refine z_bipushN (pc := 60) C 100 (by decide) dX7_oiled_60 ?_
              refine z_icmp_geF (pc := 62) C 115 dX7_oiled_62 (by decide) (nI_ge (by omega) (by omega)) ?_
              refine z_aload_n (pc := 65) C dX7_oiled_65 rfl ?_
              refine z_iload_n (pc := 66) C dX7_oiled_66 rfl ?_
              refine z_iload_n (pc := 67) C dX7_oiled_67 rfl ?_
              refine z_iload (pc := 68) C dX7_oiled_68 rfl ?_
              refine kX7_199 (pc := 70) C dX7_oiled_70 (m7_offBy κ.2.1 E S im' M hM n n7 f hm hok (by rw [hMM]; exact hidle) x0 z (by omega) hz (by rw [hfr _ (by omega) (by omega) (by omega) (by omega) (by omega) (by omega) (by omega) (by omega)]; exact hze) l0 hl0 (k + 1) (by omega) h6) (ml_K hM) (by decide) (Nat.le_of_ble_eq_true rfl) (Nat.le_refl _) (Nat.le_refl _) (fun v_70 S_70 im_70 h_70 => ?_)
              obtain ⟨e_70, rfl, hm2, hfr2, h62, hM2⟩ := h_70
              rw [hfr _ (by omega) (by omega) (by omega) (by omega) (by omega) (by omega) (by omega) (by omega)] at e_70
              obtain rfl : (fun q => s_off (upd f (8 + 7 * l0 + 2) (nI q)) (fun j => im (M + 19) (24 * x0 + j)) n n7 l0 z) (k + 1) = v_70 := e_70
              refine z_lstore (pc := 73) C dX7_oiled_73 (by decide) rfl ?_
              refine z_lload (pc := 75) C dX7_oiled_75 rfl ?_
              refine z_lload (pc := 77) C dX7_oiled_77 rfl ?_
              refine z_lcmp (pc := 79) C dX7_oiled_79 ?_
              refine z_if_ge (pc := 80) C 88 dX7_oiled_80 (by decide) (fun c_80 => ?_) (fun c_80 => ?_)
              · 
                refine z_iload (pc := 88) C dX7_oiled_88 rfl ?_
                refine z_istore (pc := 90) C dX7_oiled_90 (by decide) rfl ?_
                refine z_lload (pc := 92) C dX7_oiled_92 rfl ?_
                refine z_lload (pc := 94) C dX7_oiled_94 rfl ?_
                refine z_lcmp (pc := 96) C dX7_oiled_96 ?_
                refine z_if_geT (pc := 97) C 105 dX7_oiled_97 (by decide) (c_80) ?_
                refine z_lload (pc := 105) C dX7_oiled_105 rfl ?_
                refine z_lstore (pc := 107) C dX7_oiled_107 (by decide) rfl ?_
                refine z_iincN (pc := 109) C 1 dX7_oiled_109 rfl (by decide) rfl ?_
                refine z_goto (pc := 112) C 58 dX7_oiled_112 (by decide) ?_
                have := ih (k + 1) im_70 (some (.long ((fun q => s_off (upd f (8 + 7 * l0 + 2) (nI q)) (fun j => im (M + 19) (24 * x0 + j)) n n7 l0 z) (k + 1)))) (by omega) hm2 (hfr.tr hfr2) h62 (hM2.trans hMM)
                rw [s_bo, if_pos c_80] at this
                exact this
              · 
                refine z_iload (pc := 83) C dX7_oiled_83 rfl ?_
                refine z_goto (pc := 85) C 90 dX7_oiled_85 (by decide) ?_
                refine z_istore (pc := 90) C dX7_oiled_90 (by decide) rfl ?_
                refine z_lload (pc := 92) C dX7_oiled_92 rfl ?_
                refine z_lload (pc := 94) C dX7_oiled_94 rfl ?_
                refine z_lcmp (pc := 96) C dX7_oiled_96 ?_
                refine z_if_geF (pc := 97) C 105 dX7_oiled_97 (by decide) (c_80) ?_
                refine z_lload (pc := 100) C dX7_oiled_100 rfl ?_
                refine z_goto (pc := 102) C 107 dX7_oiled_102 (by decide) ?_
                refine z_lstore (pc := 107) C dX7_oiled_107 (by decide) rfl ?_
                refine z_iincN (pc := 109) C 1 dX7_oiled_109 rfl (by decide) rfl ?_
                refine z_goto (pc := 112) C 58 dX7_oiled_112 (by decide) ?_
                have := ih (k + 1) im_70 (some (.long ((fun q => s_off (upd f (8 + 7 * l0 + 2) (nI q)) (fun j => im (M + 19) (24 * x0 + j)) n n7 l0 z) (k + 1)))) (by omega) hm2 (hfr.tr hfr2) h62 (hM2.trans hMM)
                rw [s_bo, if_neg c_80] at this
                exact this
          refine z_aload_n (pc := 39) C dX7_oiled_39 rfl ?_
          refine kX7_173 (pc := 40) C dX7_oiled_40 (m7_thinks κ.2.1 E S im M hM) (ml_K hM) (by decide) (Nat.le_of_ble_eq_true rfl) (Nat.le_refl _) (Nat.le_refl _) (fun S_40 im_40 h_40 => ?_)
          obtain ⟨rfl, hth, hth2⟩ := h_40
          rw [hf0] at hth
          have hf1 : im_40 (M + 1) = f := by rw [hth2 _ (by omega)]; exact hf0
          have hi1 : im_40 M 4 = -1 := by rw [hth2 _ (by omega)]; exact hidle
          refine z_iconstN (pc := 43) C 0 dX7_oiled_43 ?_
          refine z_istore (pc := 44) C dX7_oiled_44 (by decide) rfl ?_
          refine z_aload_n (pc := 46) C dX7_oiled_46 rfl ?_
          refine z_iload_n (pc := 47) C dX7_oiled_47 rfl ?_
          refine z_iload_n (pc := 48) C dX7_oiled_48 rfl ?_
          refine z_iconstN (pc := 49) C 0 dX7_oiled_49 ?_
          refine kX7_199 (pc := 50) C dX7_oiled_50 (m7_offBy κ.2.1 E S im_40 M hM n n7 f hf1 hok hi1 x0 z (by omega) hz (by rw [hth2 _ (by omega)]; exact hze) l0 hl0 0 (by omega) hth) (ml_K hM) (by decide) (Nat.le_of_ble_eq_true rfl) (Nat.le_refl _) (Nat.le_refl _) (fun v_50 S_50 im_50 h_50 => ?_)
          obtain ⟨e_50, rfl, hm2, hfr2, h62, hM2⟩ := h_50
          rw [hth2 _ (by omega)] at e_50
          obtain rfl : (fun q => s_off (upd f (8 + 7 * l0 + 2) (nI q)) (fun j => im (M + 19) (24 * x0 + j)) n n7 l0 z) 0 = v_50 := e_50
          refine z_lstore (pc := 53) C dX7_oiled_53 (by decide) rfl ?_
          refine z_iconstN (pc := 55) C 1 dX7_oiled_55 ?_
          refine z_istore (pc := 56) C dX7_oiled_56 (by decide) rfl ?_
          exact loop 99 0 im_50 _ (by omega) hm2 ((frP.of_ne hth2).tr hfr2) h62 (hM2.trans (hth2 _ (by omega)))
        · 
          refine z_ldc (pc := 36) C dX7_oiled_36 wk_X7_198 ?_
          exact z_iret (pc := 38) C ρ dX7_oiled_38 (⟨_, rfl, by simp only [r_oiled, hcx0, if_pos hb_1, if_pos hb_9, if_pos hb_18, if_neg c_33], rfl, hf0, frP.rf⟩)
      · 
        refine z_if_neF (pc := 21) C 27 dX7_oiled_21 (by decide) (by decide) ?_
        refine z_ldc (pc := 24) C dX7_oiled_24 wk_X7_100 ?_
        exact z_iret (pc := 26) C ρ dX7_oiled_26 (⟨_, rfl, by simp only [r_oiled, if_pos hb_1, if_pos hb_9, if_neg hb_18], rfl, hf0, frP.rf⟩)
    · 
      refine z_if_eqT (pc := 12) C 24 dX7_oiled_12 (by decide) (by decide) ?_
      refine z_ldc (pc := 24) C dX7_oiled_24 wk_X7_100 ?_
      exact z_iret (pc := 26) C ρ dX7_oiled_26 (⟨_, rfl, by simp only [r_oiled, if_pos hb_1, if_neg hb_9], rfl, hf0, frP.rf⟩)
  · 
    refine z_if_eqT (pc := 4) C 24 dX7_oiled_4 (by decide) (by decide) ?_
    refine z_ldc (pc := 24) C dX7_oiled_24 wk_X7_100 ?_
    exact z_iret (pc := 26) C ρ dX7_oiled_26 (⟨_, rfl, by simp only [r_oiled, if_neg hb_1], rfl, hf0, frP.rf⟩)
