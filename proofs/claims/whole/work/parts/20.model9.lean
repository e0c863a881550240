/-! the reference: what will be, first half -/
def s_wy (f : Nat → Int32) (p : Nat → Nat) : Nat → Int32 × Int32
  | 0 => (nI 0, nI 0)
  | i + 1 => ((s_wy f p i).1 + (s_apart (f (8 + 7 * p i + 1)) (s_wy f p i).2 + nI 1), f (8 + 7 * p i + 1))
set_option maxRecDepth 100000 in
set_option maxHeartbeats 4000000 in
theorem m7_way (l : Launch) (E : Ex) (S : Sx) (im : Mem) (M : Nat) (hM : ML S M) (n n7 : Nat) (f : Nat → Int32) (hf0 : im (M + 1) = f) (hok : MOk f n n7)  : Mt l E yX7_way cX7_way 4 (some .int) 4 0 0 [.ref M] S im (pI (pP S im M ((s_wy f (ordA f n) n).1) (f))) := by
  refine Mt.of (by decide +kernel) rfl rfl (Nat.le_of_ble_eq_true rfl) ?_
  intro κ hκ C ρ
  subst hκ
  show V E κ 4 0 0 0 [some (.ref M), none, none, none] [] S im
  have hn10 := hok.1.1
  refine z_aload_n (pc := 0) C dX7_way_0 rfl ?_
  refine kX7_153 (pc := 1) C dX7_way_1 (m7_findOrder κ.2.1 E S im M hM n n7 (by rw [hf0]; exact hok)) (ml_K hM) (by decide) (Nat.le_of_ble_eq_true rfl) (Nat.le_refl _) (Nat.le_refl _) (fun S_1 im_1 h_1 => ?_)
  obtain ⟨rfl, hrow, hfo⟩ := h_1
  rw [hf0] at hrow
  have hm : im_1 (M + 1) = f := by rw [hfo _ (by omega) (by omega)]; exact hf0
  have hfr := hfo.P
  generalize im_1 = im' at hrow hm hfr ⊢
  have loop : ∀ (r i : Nat) (su at0 : Int32), i + r = n → su = (s_wy f (ordA f n) i).1 → at0 = (s_wy f (ordA f n) i).2 → V E κ 4 0 0 10 [some (.ref M), some (.int at0), some (.int su), some (.int (nI i))] [] S im' := by
    intro r
    induction r with
    | zero =>
      intro i su at0 hi hsu hat
      have hin : i = n := by omega
      refine z_iload_n (pc := 10) C dX7_way_10 rfl ?_
      refine z_aload_n (pc := 11) C dX7_way_11 rfl ?_
      refine gX7_9 (pc := 12) C dX7_way_12 (ml_K hM) (ml_r0 hM) ?_
      refine z_iconstN (pc := 15) C 1 dX7_way_15 ?_
      refine z_iald (pc := 16) C dX7_way_16 (ml_a1 hM) (ml_n1 hM) (by omega) (by decide) ?_
      refine z_eqi (y := nI n) (by rw [hm]; exact hok.1.2) ?_
      refine z_icmp_geT (pc := 17) C 58 dX7_way_17 (by decide) (nI_le (by omega) (by omega)) ?_
      refine z_iload_n (pc := 58) C dX7_way_58 rfl ?_
      exact z_iret (pc := 59) C ρ dX7_way_59 (⟨_, rfl, by rw [hsu, hin], rfl, hm, hfr⟩)
    | succ r ih =>
      intro i su at0 hi hsu hat
      have hpi : ordA f n i < n := ordA_lt (by omega)
      refine z_iload_n (pc := 10) C dX7_way_10 rfl ?_
      refine z_aload_n (pc := 11) C dX7_way_11 rfl ?_
      refine gX7_9 (pc := 12) C dX7_way_12 (ml_K hM) (ml_r0 hM) ?_
      refine z_iconstN (pc := 15) C 1 dX7_way_15 ?_
      refine z_iald (pc := 16) C dX7_way_16 (ml_a1 hM) (ml_n1 hM) (by omega) (by decide) ?_
      refine z_eqi (y := nI n) (by rw [hm]; exact hok.1.2) ?_
      refine z_icmp_geF (pc := 17) C 58 dX7_way_17 (by decide) (nI_ge (by omega) (by omega)) ?_
      refine z_iload_n (pc := 20) C dX7_way_20 rfl ?_
      refine z_aload_n (pc := 21) C dX7_way_21 rfl ?_
      refine z_aload_n (pc := 22) C dX7_way_22 rfl ?_
      refine gX7_23 (pc := 23) C dX7_way_23 (ml_K hM) (ml_r5 hM) ?_
      refine z_iload_n (pc := 26) C dX7_way_26 rfl ?_
      refine z_iald (pc := 27) C dX7_way_27 (ml_a4 hM) (ml_n4 hM) (by omega) (by decide) ?_
      refine z_eqi (y := nI (ordA f n i)) (hrow i (by omega)) ?_
      refine z_iconstN (pc := 28) C 1 dX7_way_28 ?_
      refine kX7_106 (pc := 29) C dX7_way_29 (m7_of κ.2.1 E S im' M hM (ordA f n i) 1 (by omega) (by decide)) (ml_K hM) (by decide) (Nat.le_of_ble_eq_true rfl) (Nat.le_refl _) (Nat.le_refl _) (fun v_29 S_29 im_29 h_29 => ?_)
      obtain ⟨rfl, rfl, rfl⟩ := h_29
      refine z_eqi (y := f (8 + 7 * ordA f n i + 1)) (by rw [hm]) ?_
      refine z_iload_n (pc := 32) C dX7_way_32 rfl ?_
      refine kX7_156 (pc := 33) C dX7_way_33 (m7_apart κ.2.1 E S im' (f (8 + 7 * ordA f n i + 1)) at0) (by decide) (Nat.le_of_ble_eq_true rfl) (Nat.le_refl _) (Nat.le_refl _) (fun v_33 S_33 im_33 h_33 => ?_)
      obtain ⟨rfl, rfl, rfl⟩ := h_33
      refine z_iconstN (pc := 36) C 1 dX7_way_36 ?_
      refine z_iadd (pc := 37) C dX7_way_37 ?_
      refine z_iadd (pc := 38) C dX7_way_38 ?_
      refine z_istore_n (pc := 39) C dX7_way_39 (by decide) rfl ?_
      refine z_aload_n (pc := 40) C dX7_way_40 rfl ?_
      refine z_aload_n (pc := 41) C dX7_way_41 rfl ?_
      refine gX7_23 (pc := 42) C dX7_way_42 (ml_K hM) (ml_r5 hM) ?_
      refine z_iload_n (pc := 45) C dX7_way_45 rfl ?_
      refine z_iald (pc := 46) C dX7_way_46 (ml_a4 hM) (ml_n4 hM) (by omega) (by decide) ?_
      refine z_eqi (y := nI (ordA f n i)) (hrow i (by omega)) ?_
      refine z_iconstN (pc := 47) C 1 dX7_way_47 ?_
      refine kX7_106 (pc := 48) C dX7_way_48 (m7_of κ.2.1 E S im' M hM (ordA f n i) 1 (by omega) (by decide)) (ml_K hM) (by decide) (Nat.le_of_ble_eq_true rfl) (Nat.le_refl _) (Nat.le_refl _) (fun v_48 S_48 im_48 h_48 => ?_)
      obtain ⟨rfl, rfl, rfl⟩ := h_48
      refine z_eqi (y := f (8 + 7 * ordA f n i + 1)) (by rw [hm]) ?_
      refine z_istore_n (pc := 51) C dX7_way_51 (by decide) rfl ?_
      refine z_iincN (pc := 52) C 1 dX7_way_52 rfl (by decide) rfl ?_
      refine z_goto (pc := 55) C 10 dX7_way_55 (by decide) ?_
      exact ih (i + 1) _ _ (by omega) (by rw [s_wy, hsu, hat]) rfl
  refine z_iconstN (pc := 4) C 0 dX7_way_4 ?_
  refine z_istore_n (pc := 5) C dX7_way_5 (by decide) rfl ?_
  refine z_iconstN (pc := 6) C 0 dX7_way_6 ?_
  refine z_istore_n (pc := 7) C dX7_way_7 (by decide) rfl ?_
  refine z_iconstN (pc := 8) C 0 dX7_way_8 ?_
  refine z_istore_n (pc := 9) C dX7_way_9 (by decide) rfl ?_
  exact loop n 0 _ _ (by omega) rfl rfl
def s_dk (f : Nat → Int32) (m : Int32) : Nat → Int32
  | 0 => nI 0
  | l0 + 1 => s_dk f m l0 ||| (if m < f (8 + 7 * l0 + 5) then nI 1 <<< (nI l0 &&& 31) else if m < f (8 + 7 * l0 + 4) then nI 0 else nI 1 <<< (nI l0 &&& 31))
def r_dark (f : Nat → Int32) (n : Nat) (m : Int32) : Int32 := if nI 0 ≤ m ∧ m ≤ nI 9999 then s_dk f m n else -1000000001
set_option maxRecDepth 100000 in
set_option maxHeartbeats 4000000 in
theorem m7_dark (l : Launch) (E : Ex) (S : Sx) (im : Mem) (M : Nat) (hM : ML S M) (n n7 : Nat) (f : Nat → Int32) (hf0 : im (M + 1) = f) (hok : MOk f n n7) (m : Int32) : Mt l E yX7_dark cX7_dark 4 (some .int) 2 0 0 [.ref M, .int m] S im (pI (pP S im M (r_dark f n m) (f))) := by
  refine Mt.of (by decide +kernel) rfl rfl (Nat.le_of_ble_eq_true rfl) ?_
  intro κ hκ C ρ
  subst hκ
  show V E κ 4 0 0 0 [some (.ref M), some (.int m), none, none] [] S im
  have hn10 := hok.1.1
  refine z_iload_n (pc := 0) C dX7_dark_0 rfl ?_
  refine z_iconstN (pc := 1) C 0 dX7_dark_1 ?_
  refine z_sipush (v := nI 9999) (pc := 2) C dX7_dark_2 (by decide +kernel) ?_
  refine kX7_92 (pc := 5) C dX7_dark_5 (m7_in κ.2.1 E S im (m) (nI 0) (nI 9999)) (by decide) (Nat.le_of_ble_eq_true rfl) (Nat.le_refl _) (Nat.le_refl _) (fun v_5 S_5 im_5 h_5 => ?_)
  rcases h_5 with ⟨hb_5, rfl, rfl, rfl⟩ | ⟨hb_5, rfl, rfl, rfl⟩
  · 
    have loop : ∀ (r l0 : Nat), l0 + r = n → V E κ 4 0 0 18 [some (.ref M), some (.int m), some (.int (s_dk f m l0)), some (.int (nI l0))] [] S im := by
      intro r
      induction r with
      | zero =>
        intro l0 hl
        have hin : l0 = n := by omega
        refine z_iload_n (pc := 18) C dX7_dark_18 rfl ?_
        refine z_aload_n (pc := 19) C dX7_dark_19 rfl ?_
        refine gX7_9 (pc := 20) C dX7_dark_20 (ml_K hM) (ml_r0 hM) ?_
        refine z_iconstN (pc := 23) C 1 dX7_dark_23 ?_
        refine z_iald (pc := 24) C dX7_dark_24 (ml_a1 hM) (ml_n1 hM) (by omega) (by decide) ?_
        refine z_eqi (y := nI n) (by rw [hf0]; exact hok.1.2) ?_
        refine z_icmp_geT (pc := 25) C 64 dX7_dark_25 (by decide) (nI_le (by omega) (by omega)) ?_
        refine z_iload_n (pc := 64) C dX7_dark_64 rfl ?_
        exact z_iret (pc := 65) C ρ dX7_dark_65 (⟨_, rfl, by rw [r_dark, if_pos hb_5, hin], rfl, hf0, frP.rf⟩)
      | succ r ih =>
        intro l0 hl
        refine z_iload_n (pc := 18) C dX7_dark_18 rfl ?_
        refine z_aload_n (pc := 19) C dX7_dark_19 rfl ?_
        refine gX7_9 (pc := 20) C dX7_dark_20 (ml_K hM) (ml_r0 hM) ?_
        refine z_iconstN (pc := 23) C 1 dX7_dark_23 ?_
        refine z_iald (pc := 24) C dX7_dark_24 (ml_a1 hM) (ml_n1 hM) (by omega) (by decide) ?_
        refine z_eqi (y := nI n) (by rw [hf0]; exact hok.1.2) ?_
        refine z_icmp_geF (pc := 25) C 64 dX7_dark_25 (by decide) (nI_ge (by omega) (by omega)) ?_
        refine z_iload_n (pc := 28) C dX7_dark_28 rfl ?_
        refine z_aload_n (pc := 29) C dX7_dark_29 rfl ?_
        refine z_iload_n (pc := 30) C dX7_dark_30 rfl ?_
        refine z_iconstN (pc := 31) C 5 dX7_dark_31 ?_
        refine kX7_106 (pc := 32) C dX7_dark_32 (m7_of κ.2.1 E S im M hM l0 5 (by omega) (by decide)) (ml_K hM) (by decide) (Nat.le_of_ble_eq_true rfl) (Nat.le_refl _) (Nat.le_refl _) (fun v_32 S_32 im_32 h_32 => ?_)
        obtain ⟨rfl, rfl, rfl⟩ := h_32
        refine z_eqi (y := f (8 + 7 * l0 + 5)) (by rw [hf0]) ?_
        refine z_iload_n (pc := 35) C dX7_dark_35 rfl ?_
        have j_56 : ∀ x56 : Int32, x56 = (if m < f (8 + 7 * l0 + 5) then nI 1 <<< (nI l0 &&& 31) else if m < f (8 + 7 * l0 + 4) then nI 0 else nI 1 <<< (nI l0 &&& 31)) → V E κ 4 0 0 56 [some (.ref M), some (.int m), some (.int (s_dk f m l0)), some (.int (nI l0))] [.int x56, .int (s_dk f m l0)] S im := by
          intro x56 ex56
          refine z_ior (pc := 56) C dX7_dark_56 ?_
          refine z_istore_n (pc := 57) C dX7_dark_57 (by decide) rfl ?_
          refine z_iincN (pc := 58) C 1 dX7_dark_58 rfl (by decide) rfl ?_
          refine z_goto (pc := 61) C 18 dX7_dark_61 (by decide) ?_
          rw [ex56]
          exact ih (l0 + 1) (by omega)
        refine z_icmp_gt (pc := 36) C 49 dX7_dark_36 (by decide) (fun c_36 => ?_) (fun c_36 => ?_)
        · 
          refine z_iconstN (pc := 49) C 1 dX7_dark_49 ?_
          refine z_iload_n (pc := 50) C dX7_dark_50 rfl ?_
          refine z_ishl (pc := 51) C dX7_dark_51 ?_
          refine z_goto (pc := 52) C 56 dX7_dark_52 (by decide) ?_
          exact j_56 _ (by simp only [if_pos c_36])
        · 
          refine z_aload_n (pc := 39) C dX7_dark_39 rfl ?_
          refine z_iload_n (pc := 40) C dX7_dark_40 rfl ?_
          refine z_iconstN (pc := 41) C 4 dX7_dark_41 ?_
          refine kX7_106 (pc := 42) C dX7_dark_42 (m7_of κ.2.1 E S im M hM l0 4 (by omega) (by decide)) (ml_K hM) (by decide) (Nat.le_of_ble_eq_true rfl) (Nat.le_refl _) (Nat.le_refl _) (fun v_42 S_42 im_42 h_42 => ?_)
          obtain ⟨rfl, rfl, rfl⟩ := h_42
          refine z_eqi (y := f (8 + 7 * l0 + 4)) (by rw [hf0]) ?_
          refine z_iload_n (pc := 45) C dX7_dark_45 rfl ?_
          refine z_icmp_gt (pc := 46) C 55 dX7_dark_46 (by decide) (fun c_46 => ?_) (fun c_46 => ?_)
          · 
            refine z_iconstN (pc := 55) C 0 dX7_dark_55 ?_
            exact j_56 _ (by simp only [if_neg c_36, if_pos c_46])
          · 
            refine z_iconstN (pc := 49) C 1 dX7_dark_49 ?_
            refine z_iload_n (pc := 50) C dX7_dark_50 rfl ?_
            refine z_ishl (pc := 51) C dX7_dark_51 ?_
            refine z_goto (pc := 52) C 56 dX7_dark_52 (by decide) ?_
            exact j_56 _ (by simp only [if_neg c_36, if_neg c_46])
    refine z_if_neT (pc := 8) C 14 dX7_dark_8 (by decide) (by decide) ?_
    refine z_iconstN (pc := 14) C 0 dX7_dark_14 ?_
    refine z_istore_n (pc := 15) C dX7_dark_15 (by decide) rfl ?_
    refine z_iconstN (pc := 16) C 0 dX7_dark_16 ?_
    refine z_istore_n (pc := 17) C dX7_dark_17 (by decide) rfl ?_
    exact loop n 0 (by omega)
  · 
    refine z_if_neF (pc := 8) C 14 dX7_dark_8 (by decide) (by decide) ?_
    refine z_ldc (pc := 11) C dX7_dark_11 wk_X7_100 ?_
    exact z_iret (pc := 13) C ρ dX7_dark_13 (⟨_, rfl, by simp only [r_dark, if_neg hb_5], rfl, hf0, frP.rf⟩)
def r_fee (f : Nat → Int32) (n7 : Nat) : Int32 := s_give f n7 (nI 1) (fa3 (f 2) (f 6) 0) (f 6)
def r_fine (f : Nat → Int32) (n n7 : Nat) (x : Int32) : Int32 := if lmp n x then s_give f n7 (nI 2) (fa3 (f (8 + 7 * x.toNatClampNeg + 3)) (f (8 + 7 * x.toNatClampNeg + 6)) 0) (f (8 + 7 * x.toNatClampNeg + 6)) else -1000000001
theorem give_eq {f : Nat → Int32} {n n7 k tt key m : Nat} (hok : MOk f n n7) (hk : 0 < k) (hk3 : k < 3) (ht : tt < n7) (hc : s_cnt f (nI k) n7 = nI tt) (hT : TxOk f tt key m) (hkey : key = k) {g : Nat → Int32} {a b d : Int32} (h0 : g 0 = a) (h1 : g 1 = b) : s_give f n7 (nI k) (fa3 a b 0) d = s_val f tt m g := by
  have h14 := hok.2.1.1
  rw [s_give, hc, if_pos (nI_pos' (by omega)), nI_clamp (by omega), s_len_eq hT, s_val, s_val, evN_congr (fa := fa3 a b 0) (fb := g) (nnm_le key) hT.2.2 (fun i hi => ?_) m (Nat.le_refl _)]
  have hi2 : i < 2 := by rw [nnm, if_neg (by omega)] at hi; exact hi
  rcases (show i = 0 ∨ i = 1 by omega) with rfl | rfl
  · exact h0.symm
  · exact h1.symm
set_option maxRecDepth 100000 in
set_option maxHeartbeats 4000000 in
theorem m7_fee (l : Launch) (E : Ex) (S : Sx) (im : Mem) (M : Nat) (hM : ML S M) (n n7 : Nat) (f : Nat → Int32) (hf0 : im (M + 1) = f) (hok : MOk f n n7)  : Mt l E yX7_fee cX7_fee 2 (some .int) 3 0 0 [.ref M] S im (pI (pP S im M (r_fee f n7) (f))) := by
  refine Mt.of (by decide +kernel) rfl rfl (Nat.le_of_ble_eq_true rfl) ?_
  intro κ hκ C ρ
  subst hκ
  show V E κ 2 0 0 0 [some (.ref M), none] [] S im
  refine z_aload_n (pc := 0) C dX7_fee_0 rfl ?_
  refine z_iconstN (pc := 1) C 1 dX7_fee_1 ?_
  refine kX7_110 (pc := 2) C dX7_fee_2 (m7_counts κ.2.1 E S im M hM (nI 1) n7 hok.2.1.1 (by rw [hf0]; exact hok.2.1.2)) (ml_K hM) (by decide) (Nat.le_of_ble_eq_true rfl) (Nat.le_refl _) (Nat.le_refl _) (fun v_2 S_2 im_2 h_2 => ?_)
  obtain ⟨rfl, rfl, rfl⟩ := h_2
  refine z_eqi (y := s_cnt f (nI 1) n7) (by rw [hf0]) ?_
  refine z_istore_n (pc := 5) C dX7_fee_5 (by decide) rfl ?_
  refine z_aload_n (pc := 6) C dX7_fee_6 rfl ?_
  refine gX7_61 (pc := 7) C dX7_fee_7 (ml_K hM) (ml_r27 hM) ?_
  refine z_iconstN (pc := 10) C 0 dX7_fee_10 ?_
  refine z_aload_n (pc := 11) C dX7_fee_11 rfl ?_
  refine gX7_9 (pc := 12) C dX7_fee_12 (ml_K hM) (ml_r0 hM) ?_
  refine z_iconstN (pc := 15) C 2 dX7_fee_15 ?_
  refine z_iald (pc := 16) C dX7_fee_16 (ml_a1 hM) (ml_n1 hM) (by omega) (by decide) ?_
  refine z_eqi (y := f 2) (by rw [hf0]) ?_
  refine z_iast (pc := 17) C dX7_fee_17 (ml_a16 hM) (ml_n16 hM) (by omega) (by decide) ?_
  refine z_aload_n (pc := 18) C dX7_fee_18 rfl ?_
  refine gX7_61 (pc := 19) C dX7_fee_19 (ml_K hM) (ml_r27 hM) ?_
  refine z_iconstN (pc := 22) C 1 dX7_fee_22 ?_
  refine z_aload_n (pc := 23) C dX7_fee_23 rfl ?_
  refine gX7_9 (pc := 24) C dX7_fee_24 (ml_K hM) (ml_r0 hM) ?_
  refine z_bipushN (pc := 27) C 6 (by decide) dX7_fee_27 ?_
  refine z_iald (pc := 29) C dX7_fee_29 (ml_a1 hM) (ml_n1 hM) (by omega) (by decide) ?_
  refine z_eqi (y := f 6) (by rw [up2_n _ _ _ (by omega), hf0]) ?_
  refine z_iast (pc := 30) C dX7_fee_30 (ml_a16 hM) (ml_n16 hM) (by omega) (by decide) ?_
  refine z_iload_n (pc := 31) C dX7_fee_31 rfl ?_
  refine z_if_ge (pc := 32) C 45 dX7_fee_32 (by decide) (fun c_32 => ?_) (fun c_32 => ?_)
  · 
    rcases s_cnt_cases f (nI 1) n7 with hc | ⟨tt, ht, hc, hkey⟩
    · rw [hc] at c_32; exact absurd c_32 (by decide)
    obtain ⟨key, m, hT⟩ := hok.2.2 tt ht
    have hk0 : key = 1 := hT.key hkey (by decide)
    rw [hc]
    refine z_aload_n (pc := 45) C dX7_fee_45 rfl ?_
    refine z_iload_n (pc := 46) C dX7_fee_46 rfl ?_
    refine kX7_114 (pc := 47) C dX7_fee_47 (m7_worksOut κ.2.1 E S _ M hM tt key m (by have := hok.2.1.1; omega) (by rw [up2_n _ _ _ (by omega), up2_n _ _ _ (by omega), hf0]; exact hT)) (ml_K hM) (by decide) (Nat.le_of_ble_eq_true rfl) (Nat.le_refl _) (Nat.le_refl _) (fun v_47 S_47 im_47 h_47 => ?_)
    obtain ⟨rfl, rfl, hfw⟩ := h_47
    exact z_iret (pc := 50) C ρ dX7_fee_50 (⟨_, rfl, by first | (rw [r_fee, s_give, if_neg c_32]) | (rw [up2_n (a := M + 1) _ _ _ (by omega), up2_n (a := M + 1) _ _ _ (by omega), hf0]; exact give_eq hok (by decide) (by decide) ht hc hT hk0 (by simp [up2_s, upd]) (by simp [up2_s, upd])), rfl, by first | (rw [up2_n _ _ _ (by omega), up2_n _ _ _ (by omega)]; exact hf0) | (rw [hfw _ (by omega), up2_n _ _ _ (by omega), up2_n _ _ _ (by omega)]; exact hf0), fun a q1 q2 q3 q4 q5 q6 q7 q8 => by first | rw [up2_n _ _ _ q8, up2_n _ _ _ q8] | rw [hfw a q7, up2_n _ _ _ q8, up2_n _ _ _ q8]⟩)
  · 
    refine z_aload_n (pc := 35) C dX7_fee_35 rfl ?_
    refine gX7_9 (pc := 36) C dX7_fee_36 (ml_K hM) (ml_r0 hM) ?_
    refine z_bipushN (pc := 39) C 6 (by decide) dX7_fee_39 ?_
    refine z_iald (pc := 41) C dX7_fee_41 (ml_a1 hM) (ml_n1 hM) (by omega) (by decide) ?_
    refine z_eqi (y := f 6) (by rw [up2_n _ _ _ (by omega), up2_n _ _ _ (by omega), hf0]) ?_
    refine z_goto (pc := 42) C 50 dX7_fee_42 (by decide) ?_
    exact z_iret (pc := 50) C ρ dX7_fee_50 (⟨_, rfl, by first | (rw [r_fee, s_give, if_neg c_32]) | (rw [up2_n (a := M + 1) _ _ _ (by omega), up2_n (a := M + 1) _ _ _ (by omega), hf0]; exact give_eq hok (by decide) (by decide) ht hc hT hk0 (by simp [up2_s, upd]) (by simp [up2_s, upd])), rfl, by first | (rw [up2_n _ _ _ (by omega), up2_n _ _ _ (by omega)]; exact hf0) | (rw [hfw _ (by omega), up2_n _ _ _ (by omega), up2_n _ _ _ (by omega)]; exact hf0), fun a q1 q2 q3 q4 q5 q6 q7 q8 => by first | rw [up2_n _ _ _ q8, up2_n _ _ _ q8] | rw [hfw a q7, up2_n _ _ _ q8, up2_n _ _ _ q8]⟩)
set_option maxRecDepth 100000 in
set_option maxHeartbeats 4000000 in
theorem m7_fine (l : Launch) (E : Ex) (S : Sx) (im : Mem) (M : Nat) (hM : ML S M) (n n7 : Nat) (f : Nat → Int32) (hf0 : im (M + 1) = f) (hok : MOk f n n7) (x : Int32) : Mt l E yX7_fine cX7_fine 3 (some .int) 3 0 0 [.ref M, .int x] S im (pI (pP S im M (r_fine f n n7 x) (f))) := by
  refine Mt.of (by decide +kernel) rfl rfl (Nat.le_of_ble_eq_true rfl) ?_
  intro κ hκ C ρ
  subst hκ
  show V E κ 3 0 0 0 [some (.ref M), some (.int x), none] [] S im
  refine z_aload_n (pc := 0) C dX7_fine_0 rfl ?_
  refine z_iload_n (pc := 1) C dX7_fine_1 rfl ?_
  refine kX7_121 (pc := 2) C dX7_fine_2 (m7_isLmp κ.2.1 E S im M hM x n hok.1.1 (by rw [hf0]; exact hok.1.2)) (ml_K hM) (by decide) (Nat.le_of_ble_eq_true rfl) (Nat.le_refl _) (Nat.le_refl _) (fun v_2 S_2 im_2 h_2 => ?_)
  rcases h_2 with ⟨hb_2, rfl, rfl, rfl⟩ | ⟨hb_2, rfl, rfl, rfl⟩
  · 
    obtain ⟨l0, hl0, rfl⟩ := (in_lamp hok.1.1).mp hb_2
    have hcl : (nI l0).toNatClampNeg = l0 := nI_clamp (by have := hok.1.1; omega)
    refine z_if_neT (pc := 5) C 11 dX7_fine_5 (by decide) (by decide) ?_
    refine z_aload_n (pc := 11) C dX7_fine_11 rfl ?_
    refine z_iconstN (pc := 12) C 2 dX7_fine_12 ?_
    refine kX7_110 (pc := 13) C dX7_fine_13 (m7_counts κ.2.1 E S im M hM (nI 2) n7 hok.2.1.1 (by rw [hf0]; exact hok.2.1.2)) (ml_K hM) (by decide) (Nat.le_of_ble_eq_true rfl) (Nat.le_refl _) (Nat.le_refl _) (fun v_13 S_13 im_13 h_13 => ?_)
    obtain ⟨rfl, rfl, rfl⟩ := h_13
    refine z_eqi (y := s_cnt f (nI 2) n7) (by rw [hf0]) ?_
    refine z_istore_n (pc := 16) C dX7_fine_16 (by decide) rfl ?_
    refine z_aload_n (pc := 17) C dX7_fine_17 rfl ?_
    refine gX7_61 (pc := 18) C dX7_fine_18 (ml_K hM) (ml_r27 hM) ?_
    refine z_iconstN (pc := 21) C 0 dX7_fine_21 ?_
    refine z_aload_n (pc := 22) C dX7_fine_22 rfl ?_
    refine z_iload_n (pc := 23) C dX7_fine_23 rfl ?_
    refine z_iconstN (pc := 24) C 3 dX7_fine_24 ?_
    refine kX7_106 (pc := 25) C dX7_fine_25 (m7_of κ.2.1 E S _ M hM l0 3 (by have := hok.1.1; omega) (by decide)) (ml_K hM) (by decide) (Nat.le_of_ble_eq_true rfl) (Nat.le_refl _) (Nat.le_refl _) (fun v_25 S_25 im_25 h_25 => ?_)
    obtain ⟨rfl, rfl, rfl⟩ := h_25
    refine z_eqi (y := f (8 + 7 * l0 + 3)) (by rw [hf0]) ?_
    refine z_iast (pc := 28) C dX7_fine_28 (ml_a16 hM) (ml_n16 hM) (by omega) (by decide) ?_
    refine z_aload_n (pc := 29) C dX7_fine_29 rfl ?_
    refine gX7_61 (pc := 30) C dX7_fine_30 (ml_K hM) (ml_r27 hM) ?_
    refine z_iconstN (pc := 33) C 1 dX7_fine_33 ?_
    refine z_aload_n (pc := 34) C dX7_fine_34 rfl ?_
    refine z_iload_n (pc := 35) C dX7_fine_35 rfl ?_
    refine z_bipushN (pc := 36) C 6 (by decide) dX7_fine_36 ?_
    refine kX7_106 (pc := 38) C dX7_fine_38 (m7_of κ.2.1 E S _ M hM l0 6 (by have := hok.1.1; omega) (by decide)) (ml_K hM) (by decide) (Nat.le_of_ble_eq_true rfl) (Nat.le_refl _) (Nat.le_refl _) (fun v_38 S_38 im_38 h_38 => ?_)
    obtain ⟨rfl, rfl, rfl⟩ := h_38
    refine z_eqi (y := f (8 + 7 * l0 + 6)) (by rw [up2_n _ _ _ (by omega), hf0]) ?_
    refine z_iast (pc := 41) C dX7_fine_41 (ml_a16 hM) (ml_n16 hM) (by omega) (by decide) ?_
    refine z_iload_n (pc := 42) C dX7_fine_42 rfl ?_
    refine z_if_ge (pc := 43) C 56 dX7_fine_43 (by decide) (fun c_43 => ?_) (fun c_43 => ?_)
    · 
      rcases s_cnt_cases f (nI 2) n7 with hc | ⟨tt, ht, hc, hkey⟩
      · rw [hc] at c_43; exact absurd c_43 (by decide)
      obtain ⟨key, m, hT⟩ := hok.2.2 tt ht
      have hk0 : key = 2 := hT.key hkey (by decide)
      rw [hc]
      refine z_aload_n (pc := 56) C dX7_fine_56 rfl ?_
      refine z_iload_n (pc := 57) C dX7_fine_57 rfl ?_
      refine kX7_114 (pc := 58) C dX7_fine_58 (m7_worksOut κ.2.1 E S _ M hM tt key m (by have := hok.2.1.1; omega) (by rw [up2_n _ _ _ (by omega), up2_n _ _ _ (by omega), hf0]; exact hT)) (ml_K hM) (by decide) (Nat.le_of_ble_eq_true rfl) (Nat.le_refl _) (Nat.le_refl _) (fun v_58 S_58 im_58 h_58 => ?_)
      obtain ⟨rfl, rfl, hfw⟩ := h_58
      exact z_iret (pc := 61) C ρ dX7_fine_61 (⟨_, rfl, by first | (rw [r_fine, if_pos hb_2, hcl, s_give, if_neg c_43]) | (rw [r_fine, if_pos hb_2, hcl, up2_n (a := M + 1) _ _ _ (by omega), up2_n (a := M + 1) _ _ _ (by omega), hf0]; exact give_eq hok (by decide) (by decide) ht hc hT hk0 (by simp [up2_s, upd]) (by simp [up2_s, upd])), rfl, by first | (rw [up2_n _ _ _ (by omega), up2_n _ _ _ (by omega)]; exact hf0) | (rw [hfw _ (by omega), up2_n _ _ _ (by omega), up2_n _ _ _ (by omega)]; exact hf0), fun a q1 q2 q3 q4 q5 q6 q7 q8 => by first | rw [up2_n _ _ _ q8, up2_n _ _ _ q8] | rw [hfw a q7, up2_n _ _ _ q8, up2_n _ _ _ q8]⟩)
    · 
      refine z_aload_n (pc := 46) C dX7_fine_46 rfl ?_
      refine z_iload_n (pc := 47) C dX7_fine_47 rfl ?_
      refine z_bipushN (pc := 48) C 6 (by decide) dX7_fine_48 ?_
      refine kX7_106 (pc := 50) C dX7_fine_50 (m7_of κ.2.1 E S _ M hM l0 6 (by have := hok.1.1; omega) (by decide)) (ml_K hM) (by decide) (Nat.le_of_ble_eq_true rfl) (Nat.le_refl _) (Nat.le_refl _) (fun v_50 S_50 im_50 h_50 => ?_)
      obtain ⟨rfl, rfl, rfl⟩ := h_50
      refine z_eqi (y := f (8 + 7 * l0 + 6)) (by rw [up2_n _ _ _ (by omega), up2_n _ _ _ (by omega), hf0]) ?_
      refine z_goto (pc := 53) C 61 dX7_fine_53 (by decide) ?_
      exact z_iret (pc := 61) C ρ dX7_fine_61 (⟨_, rfl, by first | (rw [r_fine, if_pos hb_2, hcl, s_give, if_neg c_43]) | (rw [r_fine, if_pos hb_2, hcl, up2_n (a := M + 1) _ _ _ (by omega), up2_n (a := M + 1) _ _ _ (by omega), hf0]; exact give_eq hok (by decide) (by decide) ht hc hT hk0 (by simp [up2_s, upd]) (by simp [up2_s, upd])), rfl, by first | (rw [up2_n _ _ _ (by omega), up2_n _ _ _ (by omega)]; exact hf0) | (rw [hfw _ (by omega), up2_n _ _ _ (by omega), up2_n _ _ _ (by omega)]; exact hf0), fun a q1 q2 q3 q4 q5 q6 q7 q8 => by first | rw [up2_n _ _ _ q8, up2_n _ _ _ q8] | rw [hfw a q7, up2_n _ _ _ q8, up2_n _ _ _ q8]⟩)
  · 
    refine z_if_neF (pc := 5) C 11 dX7_fine_5 (by decide) (by decide) ?_
    refine z_ldc (pc := 8) C dX7_fine_8 wk_X7_100 ?_
    exact z_iret (pc := 10) C ρ dX7_fine_10 (⟨_, rfl, by simp only [r_fine, if_neg hb_2], rfl, hf0, frP.rf⟩)
def r_why (f : Nat → Int32) (n7 : Nat) (x : Int32) : Int32 := if nI 0 ≤ x ∧ x ≤ nI 2 then (if 0 ≤ s_cnt f x n7 then s_cnt f x n7 else -1000000005) else -1000000001
def r_textTold (f : Nat → Int32) (n7 : Nat) (x w : Int32) : Int32 := if nI 0 ≤ x ∧ x ≤ nI n7 - nI 1 then (if nI 0 ≤ w ∧ w ≤ nI 1 then (if w = 0 then f (78 + 2 * x.toNatClampNeg) / nI 1000 else f (78 + 2 * x.toNatClampNeg + 1)) else -1000000001) else -1000000001
theorem in_text {n : Nat} (hn : n ≤ 14) {x : Int32} : (nI 0 ≤ x ∧ x ≤ nI n - nI 1) ↔ ∃ k, k < n ∧ x = nI k := by
  cases n with
  | zero => exact in_lamp (by decide)
  | succ m =>
    rw [pk_sub (by omega : 1 ≤ m + 1), rng (by decide) (by omega)]
    constructor
    · rintro ⟨k, -, h, e⟩
      exact ⟨k, by omega, e⟩
    · rintro ⟨k, h, e⟩
      exact ⟨k, by omega, by omega, e⟩
set_option maxRecDepth 100000 in
set_option maxHeartbeats 4000000 in
theorem m7_why (l : Launch) (E : Ex) (S : Sx) (im : Mem) (M : Nat) (hM : ML S M) (n n7 : Nat) (f : Nat → Int32) (hf0 : im (M + 1) = f) (hok : MOk f n n7) (x : Int32) : Mt l E yX7_why cX7_why 3 (some .int) 2 0 0 [.ref M, .int x] S im (pI (pP S im M (r_why f n7 x) (f))) := by
  refine Mt.of (by decide +kernel) rfl rfl (Nat.le_of_ble_eq_true rfl) ?_
  intro κ hκ C ρ
  subst hκ
  show V E κ 3 0 0 0 [some (.ref M), some (.int x), none] [] S im
  refine z_iload_n (pc := 0) C dX7_why_0 rfl ?_
  refine z_iconstN (pc := 1) C 0 dX7_why_1 ?_
  refine z_iconstN (pc := 2) C 2 dX7_why_2 ?_
  refine kX7_92 (pc := 3) C dX7_why_3 (m7_in κ.2.1 E S im (x) (nI 0) (nI 2)) (by decide) (Nat.le_of_ble_eq_true rfl) (Nat.le_refl _) (Nat.le_refl _) (fun v_3 S_3 im_3 h_3 => ?_)
  rcases h_3 with ⟨hb_3, rfl, rfl, rfl⟩ | ⟨hb_3, rfl, rfl, rfl⟩
  · 
    refine z_if_neT (pc := 6) C 12 dX7_why_6 (by decide) (by decide) ?_
    refine z_aload_n (pc := 12) C dX7_why_12 rfl ?_
    refine z_iload_n (pc := 13) C dX7_why_13 rfl ?_
    refine kX7_110 (pc := 14) C dX7_why_14 (m7_counts κ.2.1 E S im M hM x n7 hok.2.1.1 (by rw [hf0]; exact hok.2.1.2)) (ml_K hM) (by decide) (Nat.le_of_ble_eq_true rfl) (Nat.le_refl _) (Nat.le_refl _) (fun v_14 S_14 im_14 h_14 => ?_)
    obtain ⟨rfl, rfl, rfl⟩ := h_14
    refine z_eqi (y := s_cnt f x n7) (by rw [hf0]) ?_
    refine z_istore_n (pc := 17) C dX7_why_17 (by decide) rfl ?_
    refine z_iload_n (pc := 18) C dX7_why_18 rfl ?_
    refine z_if_ge (pc := 19) C 27 dX7_why_19 (by decide) (fun c_19 => ?_) (fun c_19 => ?_)
    · 
      refine z_iload_n (pc := 27) C dX7_why_27 rfl ?_
      exact z_iret (pc := 28) C ρ dX7_why_28 (⟨_, rfl, by simp only [r_why, if_pos hb_3, if_pos c_19], rfl, hf0, frP.rf⟩)
    · 
      refine z_ldc (pc := 22) C dX7_why_22 wk_X7_91 ?_
      refine z_goto (pc := 24) C 28 dX7_why_24 (by decide) ?_
      exact z_iret (pc := 28) C ρ dX7_why_28 (⟨_, rfl, by simp only [r_why, if_pos hb_3, if_neg c_19], rfl, hf0, frP.rf⟩)
  · 
    refine z_if_neF (pc := 6) C 12 dX7_why_6 (by decide) (by decide) ?_
    refine z_ldc (pc := 9) C dX7_why_9 wk_X7_100 ?_
    exact z_iret (pc := 11) C ρ dX7_why_11 (⟨_, rfl, by simp only [r_why, if_neg hb_3], rfl, hf0, frP.rf⟩)
set_option maxRecDepth 100000 in
set_option maxHeartbeats 4000000 in
theorem m7_textTold (l : Launch) (E : Ex) (S : Sx) (im : Mem) (M : Nat) (hM : ML S M) (n n7 : Nat) (f : Nat → Int32) (hf0 : im (M + 1) = f) (hok : MOk f n n7) (x w : Int32) : Mt l E yX7_textTold cX7_textTold 3 (some .int) 2 0 0 [.ref M, .int x, .int w] S im (pI (pP S im M (r_textTold f n7 x w) (f))) := by
  refine Mt.of (by decide +kernel) rfl rfl (Nat.le_of_ble_eq_true rfl) ?_
  intro κ hκ C ρ
  subst hκ
  show V E κ 3 0 0 0 [some (.ref M), some (.int x), some (.int w)] [] S im
  refine z_iload_n (pc := 0) C dX7_textTold_0 rfl ?_
  refine z_iconstN (pc := 1) C 0 dX7_textTold_1 ?_
  refine z_aload_n (pc := 2) C dX7_textTold_2 rfl ?_
  refine gX7_9 (pc := 3) C dX7_textTold_3 (ml_K hM) (ml_r0 hM) ?_
  refine z_bipushN (pc := 6) C 7 (by decide) dX7_textTold_6 ?_
  refine z_iald (pc := 8) C dX7_textTold_8 (ml_a1 hM) (ml_n1 hM) (by omega) (by decide) ?_
  refine z_eqi (y := nI n7) (by rw [hf0]; exact hok.2.1.2) ?_
  refine z_iconstN (pc := 9) C 1 dX7_textTold_9 ?_
  refine z_isub (pc := 10) C dX7_textTold_10 ?_
  refine kX7_92 (pc := 11) C dX7_textTold_11 (m7_in κ.2.1 E S im x (nI 0) (nI n7 - nI 1)) (by decide) (Nat.le_of_ble_eq_true rfl) (Nat.le_refl _) (Nat.le_refl _) (fun v_11 S_11 im_11 h_11 => ?_)
  rcases h_11 with ⟨hb_11, rfl, rfl, rfl⟩ | ⟨hb_11, rfl, rfl, rfl⟩
  · 
    obtain ⟨t0, ht0, rfl⟩ := (in_text hok.2.1.1).mp hb_11
    have h14 := hok.2.1.1
    have hcl : (nI t0).toNatClampNeg = t0 := nI_clamp (by omega)
    refine z_if_eqF (pc := 14) C 26 dX7_textTold_14 (by decide) (by decide) ?_
    refine z_iload_n (pc := 17) C dX7_textTold_17 rfl ?_
    refine z_iconstN (pc := 18) C 0 dX7_textTold_18 ?_
    refine z_iconstN (pc := 19) C 1 dX7_textTold_19 ?_
    refine kX7_92 (pc := 20) C dX7_textTold_20 (m7_in κ.2.1 E S im (w) (nI 0) (nI 1)) (by decide) (Nat.le_of_ble_eq_true rfl) (Nat.le_refl _) (Nat.le_refl _) (fun v_20 S_20 im_20 h_20 => ?_)
    rcases h_20 with ⟨hb_20, rfl, rfl, rfl⟩ | ⟨hb_20, rfl, rfl, rfl⟩
    · 
      refine z_if_neT (pc := 23) C 29 dX7_textTold_23 (by decide) (by decide) ?_
      refine z_iload_n (pc := 29) C dX7_textTold_29 rfl ?_
      refine z_if_ne (pc := 30) C 51 dX7_textTold_30 (by decide) (fun c_30 => ?_) (fun c_30 => ?_)
      · 
        refine z_aload_n (pc := 51) C dX7_textTold_51 rfl ?_
        refine gX7_9 (pc := 52) C dX7_textTold_52 (ml_K hM) (ml_r0 hM) ?_
        refine z_bipushN (pc := 55) C 78 (by decide) dX7_textTold_55 ?_
        refine z_iconstN (pc := 57) C 2 dX7_textTold_57 ?_
        refine z_iload_n (pc := 58) C dX7_textTold_58 rfl ?_
        refine z_imulN (pc := 59) C dX7_textTold_59 ?_
        refine z_iaddN (pc := 60) C dX7_textTold_60 ?_
        refine z_iconstN (pc := 61) C 1 dX7_textTold_61 ?_
        refine z_iaddN (pc := 62) C dX7_textTold_62 ?_
        refine z_iald (pc := 63) C dX7_textTold_63 (ml_a1 hM) (ml_n1 hM) (by omega) (by decide) ?_
        exact z_iret (pc := 64) C ρ dX7_textTold_64 (⟨_, rfl, by simp only [r_textTold, if_pos hb_11, if_pos hb_20, if_neg c_30, hcl, hf0], rfl, hf0, frP.rf⟩)
      · 
        refine z_aload_n (pc := 33) C dX7_textTold_33 rfl ?_
        refine gX7_9 (pc := 34) C dX7_textTold_34 (ml_K hM) (ml_r0 hM) ?_
        refine z_bipushN (pc := 37) C 78 (by decide) dX7_textTold_37 ?_
        refine z_iconstN (pc := 39) C 2 dX7_textTold_39 ?_
        refine z_iload_n (pc := 40) C dX7_textTold_40 rfl ?_
        refine z_imulN (pc := 41) C dX7_textTold_41 ?_
        refine z_iaddN (pc := 42) C dX7_textTold_42 ?_
        refine z_iald (pc := 43) C dX7_textTold_43 (ml_a1 hM) (ml_n1 hM) (by omega) (by decide) ?_
        refine z_sipush (v := nI 1000) (pc := 44) C dX7_textTold_44 (by decide +kernel) ?_
        refine z_idiv (pc := 47) C dX7_textTold_47 (by decide) ?_
        refine z_goto (pc := 48) C 64 dX7_textTold_48 (by decide) ?_
        exact z_iret (pc := 64) C ρ dX7_textTold_64 (⟨_, rfl, by simp only [r_textTold, if_pos hb_11, if_pos hb_20, if_pos c_30, hcl, hf0], rfl, hf0, frP.rf⟩)
    · 
      refine z_if_neF (pc := 23) C 29 dX7_textTold_23 (by decide) (by decide) ?_
      refine z_ldc (pc := 26) C dX7_textTold_26 wk_X7_100 ?_
      exact z_iret (pc := 28) C ρ dX7_textTold_28 (⟨_, rfl, by simp only [r_textTold, if_pos hb_11, if_neg hb_20], rfl, hf0, frP.rf⟩)
  · 
    refine z_if_eqT (pc := 14) C 26 dX7_textTold_14 (by decide) (by decide) ?_
    refine z_ldc (pc := 26) C dX7_textTold_26 wk_X7_100 ?_
    exact z_iret (pc := 28) C ρ dX7_textTold_28 (⟨_, rfl, by simp only [r_textTold, if_neg hb_11], rfl, hf0, frP.rf⟩)
