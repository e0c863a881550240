/-! the class: darkAt, minutesTonight -/
set_option maxRecDepth 100000 in
set_option maxHeartbeats 4000000 in
theorem c3_darkAt (l : Launch) (E : Ex) (S : Sx) (im : Mem) (q : Nat) (hs : SL S q) (f : Nat → Int32) (n : Nat) (hr : SR im q f n) (m : Int32) : Mt l E yX3_darkAt cX3_darkAt 4 (some .int) 1 0 0 [.ref q, .int m] S im (pI (pE S im (s_dk f m n))) := by
  refine Mt.of (by decide +kernel) rfl rfl (Nat.le_of_ble_eq_true rfl) ?_
  intro κ hκ C ρ
  subst hκ
  show V E κ 4 0 0 0 [some (.ref q), some (.int m), none, none] [] S im
  have hn10 := hr.1.1
  have loop : ∀ (r i : Nat), i + r = n → V E κ 4 0 0 4 [some (.ref q), some (.int m), some (.int (s_dk f m i)), some (.int (nI i))] [] S im := by
    intro r
    induction r with
    | zero =>
      intro i hi
      refine z_iload_n (pc := 4) C dX3_darkAt_4 rfl ?_
      refine z_aload_n (pc := 5) C dX3_darkAt_5 rfl ?_
      refine gX3_39 (pc := 6) C dX3_darkAt_6 (sl_K hs) ?_
      refine z_eqi (y := nI n) (hr.1.2.2) ?_
      refine z_icmp_geT (pc := 9) C 50 dX3_darkAt_9 (by decide) (nI_le (by omega) (by omega)) ?_
      refine z_iload_n (pc := 50) C dX3_darkAt_50 rfl ?_
      exact z_iret (pc := 51) C ρ dX3_darkAt_51 (⟨_, rfl, by rw [show n = i by omega], rfl, rfl⟩)
    | succ r ih =>
      intro i hi
      refine z_iload_n (pc := 4) C dX3_darkAt_4 rfl ?_
      refine z_aload_n (pc := 5) C dX3_darkAt_5 rfl ?_
      refine gX3_39 (pc := 6) C dX3_darkAt_6 (sl_K hs) ?_
      refine z_eqi (y := nI n) (hr.1.2.2) ?_
      refine z_icmp_geF (pc := 9) C 50 dX3_darkAt_9 (by decide) (nI_ge (by omega) (by omega)) ?_
      refine z_aload_n (pc := 12) C dX3_darkAt_12 rfl ?_
      refine gX3_11 (pc := 13) C dX3_darkAt_13 (sl_K hs) (sl_r0 hs) ?_
      refine z_iload_n (pc := 16) C dX3_darkAt_16 rfl ?_
      refine z_aald (pc := 17) C dX3_darkAt_17 (sl_a1 hs) (by decide) (sl_n1 hs) (by omega) (by decide) (sl_e hs (i := i) (by omega)) ?_
      refine gX3_82 (pc := 18) C dX3_darkAt_18 (sl_l hs (i := i) (by omega)) ?_
      refine z_eqi (y := f (8 + 7 * i + 5)) (hr.2.2 i (by omega) 5 (by decide)) ?_
      refine z_iload_n (pc := 21) C dX3_darkAt_21 rfl ?_
      refine z_icmp_gt (pc := 22) C 38 dX3_darkAt_22 (by decide) (fun c_22 => ?_) (fun c_22 => ?_)
      · 
        refine z_iload_n (pc := 38) C dX3_darkAt_38 rfl ?_
        refine z_iconstN (pc := 39) C 1 dX3_darkAt_39 ?_
        refine z_iload_n (pc := 40) C dX3_darkAt_40 rfl ?_
        refine z_ishl (pc := 41) C dX3_darkAt_41 ?_
        refine z_ior (pc := 42) C dX3_darkAt_42 ?_
        refine z_istore_n (pc := 43) C dX3_darkAt_43 (by decide) rfl ?_
        refine z_iincN (pc := 44) C 1 dX3_darkAt_44 rfl (by decide) rfl ?_
        refine z_goto (pc := 47) C 4 dX3_darkAt_47 (by decide) ?_
        have := ih (i + 1) (by omega)
        rw [s_dk, if_pos c_22] at this
        exact this
      · 
        refine z_aload_n (pc := 25) C dX3_darkAt_25 rfl ?_
        refine gX3_11 (pc := 26) C dX3_darkAt_26 (sl_K hs) (sl_r0 hs) ?_
        refine z_iload_n (pc := 29) C dX3_darkAt_29 rfl ?_
        refine z_aald (pc := 30) C dX3_darkAt_30 (sl_a1 hs) (by decide) (sl_n1 hs) (by omega) (by decide) (sl_e hs (i := i) (by omega)) ?_
        refine gX3_79 (pc := 31) C dX3_darkAt_31 (sl_l hs (i := i) (by omega)) ?_
        refine z_eqi (y := f (8 + 7 * i + 4)) (hr.2.2 i (by omega) 4 (by decide)) ?_
        refine z_iload_n (pc := 34) C dX3_darkAt_34 rfl ?_
        refine z_icmp_gt (pc := 35) C 44 dX3_darkAt_35 (by decide) (fun c_35 => ?_) (fun c_35 => ?_)
        · 
          refine z_iincN (pc := 44) C 1 dX3_darkAt_44 rfl (by decide) rfl ?_
          refine z_goto (pc := 47) C 4 dX3_darkAt_47 (by decide) ?_
          have := ih (i + 1) (by omega)
          rw [s_dk, if_neg c_22, if_pos c_35, nI_0, Int32.or_zero] at this
          exact this
        · 
          refine z_iload_n (pc := 38) C dX3_darkAt_38 rfl ?_
          refine z_iconstN (pc := 39) C 1 dX3_darkAt_39 ?_
          refine z_iload_n (pc := 40) C dX3_darkAt_40 rfl ?_
          refine z_ishl (pc := 41) C dX3_darkAt_41 ?_
          refine z_ior (pc := 42) C dX3_darkAt_42 ?_
          refine z_istore_n (pc := 43) C dX3_darkAt_43 (by decide) rfl ?_
          refine z_iincN (pc := 44) C 1 dX3_darkAt_44 rfl (by decide) rfl ?_
          refine z_goto (pc := 47) C 4 dX3_darkAt_47 (by decide) ?_
          have := ih (i + 1) (by omega)
          rw [s_dk, if_neg c_22, if_neg c_35] at this
          exact this
  refine z_iconstN (pc := 0) C 0 dX3_darkAt_0 ?_
  refine z_istore_n (pc := 1) C dX3_darkAt_1 (by decide) rfl ?_
  refine z_iconstN (pc := 2) C 0 dX3_darkAt_2 ?_
  refine z_istore_n (pc := 3) C dX3_darkAt_3 (by decide) rfl ?_
  exact loop n 0 (by omega)
theorem abs_apart {a b : Int32} (ha : inR 0 99 a) (hb : inR 0 99 b) : (if 0 ≤ a - b then a - b else 0 - (a - b)) = s_apart a b := by
  have e1 := sub_toI ha hb (by decide) (by decide)
  have e2 := sub_toI hb ha (by decide) (by decide)
  have hz : inR 0 0 (0 : Int32) := by unfold inR; rw [Int32.toInt_zero]; omega
  have h1 : inR (-99) 99 (a - b) := by unfold inR; rw [e1]; obtain ⟨p, q⟩ := ha; obtain ⟨r, s⟩ := hb; omega
  have e3 := sub_toI hz h1 (by decide) (by decide)
  rw [← Int32.toInt_inj]
  unfold s_apart
  by_cases h : b ≤ a
  · rw [if_pos h, if_pos (by rw [Int32.le_iff_toInt_le, e1, Int32.toInt_zero]; rw [Int32.le_iff_toInt_le] at h; omega)]
  · rw [if_neg h, if_neg (by rw [Int32.le_iff_toInt_le, e1, Int32.toInt_zero]; rw [Int32.le_iff_toInt_le] at h; omega), e3, e1, e2, Int32.toInt_zero]
    omega
def PlR (f : Nat → Int32) (n : Nat) : Prop := ∀ l, l < n → inR 0 99 (f (8 + 7 * l + 1))
theorem wy2 {f : Nat → Int32} {n : Nat} (h : PlR f n) : ∀ i, i ≤ n → inR 0 99 (s_wy f (ordA f n) i).2 := by
  intro i hi
  cases i with
  | zero => show inR 0 99 (nI 0); unfold inR; rw [nI_toInt (by decide)]; omega
  | succ i => exact h _ (ordA_lt (by omega))
set_option maxRecDepth 100000 in
set_option maxHeartbeats 4000000 in
theorem c3_minutes (l : Launch) (E : Ex) (S : Sx) (im : Mem) (q : Nat) (hs : SL S q) (f : Nat → Int32) (n : Nat) (hr : SR im q f n) (hpl : PlR f n) : Mt l E yX3_minutesTonight cX3_minutesTonight 5 (some .int) 3 0 0 [.ref q] S im (pI (fun v S' im' => (s_wy f (ordA f n) n).1 = v ∧ S = S' ∧ ∀ c, c ≠ q + 2 → im' c = im c)) := by
  refine Mt.of (by decide +kernel) rfl rfl (Nat.le_of_ble_eq_true rfl) ?_
  intro κ hκ C ρ
  subst hκ
  show V E κ 5 0 0 0 [some (.ref q), none, none, none, none] [] S im
  refine z_aload_n (pc := 0) C dX3_minutesTonight_0 rfl ?_
  refine kX3_103 (pc := 1) C dX3_minutesTonight_1 (c3_lineUp κ.2.1 E S im q hs f n hr) (sl_K hs) (by decide) (Nat.le_of_ble_eq_true rfl) (Nat.le_refl _) (Nat.le_refl _) (fun S_1 im_1 h_1 => ?_)
  obtain ⟨rfl, hL, hc⟩ := h_1
  have hn10 := hr.1.1
  have loop : ∀ (r i : Nat) (y4 : Option Value), i + r = n → V E κ 5 0 0 10 [some (.ref q), some (.int ((s_wy f (ordA f n) i).1)), some (.int ((s_wy f (ordA f n) i).2)), some (.int (nI i)), y4] [] S im_1 := by
    intro r
    induction r with
    | zero =>
      intro i y4 hi
      refine z_iload_n (pc := 10) C dX3_minutesTonight_10 rfl ?_
      refine z_aload_n (pc := 11) C dX3_minutesTonight_11 rfl ?_
      refine gX3_39 (pc := 12) C dX3_minutesTonight_12 (sl_K hs) ?_
      refine z_eqi (y := nI n) (by rw [hc q (by omega)]; exact hr.1.2.2) ?_
      refine z_icmp_geT (pc := 15) C 55 dX3_minutesTonight_15 (by decide) (nI_le (by omega) (by omega)) ?_
      refine z_iload_n (pc := 55) C dX3_minutesTonight_55 rfl ?_
      exact z_iret (pc := 56) C ρ dX3_minutesTonight_56 (⟨_, rfl, by rw [show n = i by omega], rfl, hc⟩)
    | succ r ih =>
      intro i y4 hi
      have hob : ordA f n i < n := ordA_lt (by omega)
      refine z_iload_n (pc := 10) C dX3_minutesTonight_10 rfl ?_
      refine z_aload_n (pc := 11) C dX3_minutesTonight_11 rfl ?_
      refine gX3_39 (pc := 12) C dX3_minutesTonight_12 (sl_K hs) ?_
      refine z_eqi (y := nI n) (by rw [hc q (by omega)]; exact hr.1.2.2) ?_
      refine z_icmp_geF (pc := 15) C 55 dX3_minutesTonight_15 (by decide) (nI_ge (by omega) (by omega)) ?_
      refine z_aload_n (pc := 18) C dX3_minutesTonight_18 rfl ?_
      refine gX3_11 (pc := 19) C dX3_minutesTonight_19 (sl_K hs) (sl_r0 hs) ?_
      refine z_aload_n (pc := 22) C dX3_minutesTonight_22 rfl ?_
      refine gX3_17 (pc := 23) C dX3_minutesTonight_23 (sl_K hs) (sl_r2 hs) ?_
      refine z_iload_n (pc := 26) C dX3_minutesTonight_26 rfl ?_
      refine z_iald (pc := 27) C dX3_minutesTonight_27 (sl_a2 hs) (sl_n2 hs) (by omega) (by decide) ?_
      refine z_eqi (y := nI (ordA f n i)) (hL i (by omega)) ?_
      refine z_aald (pc := 28) C dX3_minutesTonight_28 (sl_a1 hs) (by decide) (sl_n1 hs) (by omega) (by decide) (sl_e hs (i := ordA f n i) (by omega)) ?_
      refine gX3_70 (pc := 29) C dX3_minutesTonight_29 (sl_l hs (i := (ordA f n i)) (by omega)) ?_
      refine z_eqi (y := f (8 + 7 * (ordA f n i) + 1)) (by rw [hc _ (by omega)]; exact hr.2.2 _ (by omega) 1 (by decide)) ?_
      refine z_istore (pc := 32) C dX3_minutesTonight_32 (by decide) rfl ?_
      refine z_iload_n (pc := 34) C dX3_minutesTonight_34 rfl ?_
      refine z_iload (pc := 35) C dX3_minutesTonight_35 rfl ?_
      refine z_iload_n (pc := 37) C dX3_minutesTonight_37 rfl ?_
      refine z_isub (pc := 38) C dX3_minutesTonight_38 ?_
      refine z_abs (pc := 39) C dX3_minutesTonight_39 wm_X3_106 (by decide) (Nat.le_of_ble_eq_true rfl) (Nat.zero_le _) (Nat.zero_le _) ?_
      refine z_eqi (y := s_apart (f (8 + 7 * (ordA f n i) + 1)) (s_wy f (ordA f n) i).2) (abs_apart (hpl _ (by omega)) (wy2 hpl i (by omega))) ?_
      refine z_iconstN (pc := 42) C 1 dX3_minutesTonight_42 ?_
      refine z_iadd (pc := 43) C dX3_minutesTonight_43 ?_
      refine z_iadd (pc := 44) C dX3_minutesTonight_44 ?_
      refine z_istore_n (pc := 45) C dX3_minutesTonight_45 (by decide) rfl ?_
      refine z_iload (pc := 46) C dX3_minutesTonight_46 rfl ?_
      refine z_istore_n (pc := 48) C dX3_minutesTonight_48 (by decide) rfl ?_
      refine z_iincN (pc := 49) C 1 dX3_minutesTonight_49 rfl (by decide) rfl ?_
      refine z_goto (pc := 52) C 10 dX3_minutesTonight_52 (by decide) ?_
      exact ih (i + 1) _ (by omega)
  refine z_iconstN (pc := 4) C 0 dX3_minutesTonight_4 ?_
  refine z_istore_n (pc := 5) C dX3_minutesTonight_5 (by decide) rfl ?_
  refine z_iconstN (pc := 6) C 0 dX3_minutesTonight_6 ?_
  refine z_istore_n (pc := 7) C dX3_minutesTonight_7 (by decide) rfl ?_
  refine z_iconstN (pc := 8) C 0 dX3_minutesTonight_8 ?_
  refine z_istore_n (pc := 9) C dX3_minutesTonight_9 (by decide) rfl ?_
  exact loop n 0 _ (by omega)
