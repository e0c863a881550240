/-! the reference: lamps and nights -/
/-- nothing has changed but the numbers and the rows that are only used within a call -/
def frP (M : Nat) (im im' : Mem) : Prop := ∀ a, a ≠ M + 1 → a ≠ M + 4 → a ≠ M + 5 → a ≠ M + 6 → a ≠ M + 7 → a ≠ M + 8 → a ≠ M + 15 → a ≠ M + 16 → im' a = im a
theorem frP.rf {M : Nat} {im : Mem} : frP M im im := fun _ _ _ _ _ _ _ _ _ => rfl
theorem frP.tr {M : Nat} {a b c : Mem} (h1 : frP M a b) (h2 : frP M b c) : frP M a c := fun q x1 x2 x3 x4 x5 x6 x7 x8 => (h2 q x1 x2 x3 x4 x5 x6 x7 x8).trans (h1 q x1 x2 x3 x4 x5 x6 x7 x8)
theorem frN.P {M : Nat} {im im' : Mem} (h : frN M im im') : frP M im im' := fun a x1 x2 x3 _ _ _ x7 x8 => h a x1 x2 x3 x7 x8
theorem frO.P {M : Nat} {im im' : Mem} (h : frO M im im') : frP M im im' := fun a _ x2 x3 _ _ _ _ _ => h a x2 x3
theorem frX.P {M : Nat} {im im' : Mem} (h : frX M im im') : frP M im im' := fun a _ _ _ _ _ _ x7 x8 => h a x7 x8
theorem frP.up {M : Nat} {im : Mem} {k : Nat} {x : Int32} : frP M im (up2 im (M + 1) k x) := fun a x1 _ _ _ _ _ _ _ => up2_n _ _ _ x1
theorem frP.va {M : Nat} {im : Mem} {g : Nat → Int32} : frP M im (va_up im (M + 1) g) := fun a x1 _ _ _ _ _ _ _ => up_n _ _ x1
/-- the answer, and the numbers behind the call -/
def pP (S : Sx) (im : Mem) (M : Nat) (r : Int32) (g : Nat → Int32) : Int32 → Sx → Mem → Prop := fun v S' im' => r = v ∧ S = S' ∧ im' (M + 1) = g ∧ frP M im im'
/-- is it a lamp's number -/
abbrev lmp (n : Nat) (x : Int32) : Prop := nI 0 ≤ x ∧ x ≤ nI n - nI 1
set_option maxRecDepth 100000 in
set_option maxHeartbeats 4000000 in
theorem m7_isLmp (l : Launch) (E : Ex) (S : Sx) (im : Mem) (M : Nat) (hM : ML S M) (x : Int32) (n : Nat) (hn : n ≤ 10) (hn1 : im (M + 1) 1 = nI n) : Mt l E yX7_isLamp cX7_isLamp 2 (some .boolean) 2 0 0 [.ref M, .int x] S im (pI (pB S im (lmp n x))) := by
  refine Mt.of (by decide +kernel) rfl rfl (Nat.le_of_ble_eq_true rfl) ?_
  intro κ hκ C ρ
  subst hκ
  show V E κ 2 0 0 0 [some (.ref M), some (.int x)] [] S im
  refine z_iload_n (pc := 0) C dX7_isLamp_0 rfl ?_
  refine z_iconstN (pc := 1) C 0 dX7_isLamp_1 ?_
  refine z_aload_n (pc := 2) C dX7_isLamp_2 rfl ?_
  refine gX7_9 (pc := 3) C dX7_isLamp_3 (ml_K hM) (ml_r0 hM) ?_
  refine z_iconstN (pc := 6) C 1 dX7_isLamp_6 ?_
  refine z_iald (pc := 7) C dX7_isLamp_7 (ml_a1 hM) (ml_n1 hM) (by omega) (by decide) ?_
  refine z_eqi (y := nI n) (hn1) ?_
  refine z_iconstN (pc := 8) C 1 dX7_isLamp_8 ?_
  refine z_isub (pc := 9) C dX7_isLamp_9 ?_
  refine kX7_92 (pc := 10) C dX7_isLamp_10 (m7_in κ.2.1 E S im x (nI 0) (nI n - nI 1)) (by decide) (Nat.le_of_ble_eq_true rfl) (Nat.le_refl _) (Nat.le_refl _) (fun v_10 S_10 im_10 h_10 => ?_)
  rcases h_10 with ⟨hb, rfl, rfl, rfl⟩ | ⟨hb, rfl, rfl, rfl⟩
  · exact z_zret (pc := 13) C ρ dX7_isLamp_13 (by decide) (⟨_, rfl, Or.inl ⟨hb, rfl, rfl, rfl⟩⟩)
  · exact z_zret (pc := 13) C ρ dX7_isLamp_13 (by decide) (⟨_, rfl, Or.inr ⟨hb, rfl, rfl, rfl⟩⟩)
  -- done
def s_nights (f : Nat → Int32) (n n7 : Nat) (idle : Int32) : Nat → Nat → Int32
  | 0 => f
  | k + 1 => s_night (s_nights f n n7 idle k) n n7 idle
theorem sam_nights {f : Nat → Int32} {n n7 : Nat} {idle : Int32} (hn : n ≤ 10) : ∀ k, sam f (s_nights f n n7 idle k) := by
  intro k
  induction k with
  | zero => exact sam.rf
  | succ k ih => rw [s_nights]; exact ih.tr (sam_night hn)
set_option maxRecDepth 100000 in
set_option maxHeartbeats 4000000 in
theorem m7_goesOn (l : Launch) (E : Ex) (S : Sx) (im : Mem) (M : Nat) (hM : ML S M) (n n7 : Nat) (f : Nat → Int32) (hf0 : im (M + 1) = f) (hok : MOk f n n7) (idle : Int32) (hidle : im M 4 = idle) (k : Nat) (hk : k < 10000) : Mt l E yX7_goesOn cX7_goesOn 3 none 6 0 0 [.ref M, .int (nI k)] S im (pV (fun S' im' => S = S' ∧ im' (M + 1) = s_nights f n n7 idle k ∧ frN M im im')) := by
  refine Mt.of (by decide +kernel) rfl rfl (Nat.le_of_ble_eq_true rfl) ?_
  intro κ hκ C ρ
  subst hκ
  show V E κ 3 0 0 0 [some (.ref M), some (.int (nI k)), none] [] S im
  have loop : ∀ (r i : Nat) (im' : Mem), i + r = k → im' (M + 1) = s_nights f n n7 idle i → frN M im im' → V E κ 3 0 0 2 [some (.ref M), some (.int (nI k)), some (.int (nI i))] [] S im' := by
    intro r
    induction r with
    | zero =>
      intro i im' hi hm hfr
      have hik : i = k := by omega
      refine z_iload_n (pc := 2) C dX7_goesOn_2 rfl ?_
      refine z_iload_n (pc := 3) C dX7_goesOn_3 rfl ?_
      refine z_icmp_geT (pc := 4) C 17 dX7_goesOn_4 (by decide) (nI_le (by omega) (by omega)) ?_
      exact z_vret (pc := 17) C ρ dX7_goesOn_17 (⟨rfl, rfl, by rw [hm, hik], hfr⟩)
    | succ r ih =>
      intro i im' hi hm hfr
      refine z_iload_n (pc := 2) C dX7_goesOn_2 rfl ?_
      refine z_iload_n (pc := 3) C dX7_goesOn_3 rfl ?_
      refine z_icmp_geF (pc := 4) C 17 dX7_goesOn_4 (by decide) (nI_ge (by omega) (by omega)) ?_
      refine z_aload_n (pc := 7) C dX7_goesOn_7 rfl ?_
      refine kX7_163 (pc := 8) C dX7_goesOn_8 (m7_night κ.2.1 E S im' M hM n n7 _ hm idle (by rw [hfr _ (by omega) (by omega) (by omega) (by omega) (by omega)]; exact hidle) (hok.sam (sam_nights hok.1.1 i))) (ml_K hM) (by decide) (Nat.le_of_ble_eq_true rfl) (Nat.le_refl _) (Nat.le_refl _) (fun S_8 im_8 h_8 => ?_)
      obtain ⟨rfl, hm2, hfr2⟩ := h_8
      refine z_iincN (pc := 11) C 1 dX7_goesOn_11 rfl (by decide) rfl ?_
      refine z_goto (pc := 14) C 2 dX7_goesOn_14 (by decide) ?_
      exact ih (i + 1) im_8 (by omega) (by rw [hm2]; rfl) (hfr.tr hfr2)
  refine z_iconstN (pc := 0) C 0 dX7_goesOn_0 ?_
  refine z_istore_n (pc := 1) C dX7_goesOn_1 (by decide) rfl ?_
  exact loop k 0 im (by omega) hf0 frN.rf
def s_sum (f : Nat → Int32) (w : Nat) : Nat → Int32
  | 0 => nI 0
  | k + 1 => s_sum f w k + f (8 + 7 * k + w)
set_option maxRecDepth 100000 in
set_option maxHeartbeats 4000000 in
theorem m7_sumOf (l : Launch) (E : Ex) (S : Sx) (im : Mem) (M : Nat) (hM : ML S M) (n n7 : Nat) (f : Nat → Int32) (hf0 : im (M + 1) = f) (hok : MOk f n n7) (w : Nat) (hw : w < 7) : Mt l E yX7_sumOf cX7_sumOf 4 (some .int) 2 0 0 [.ref M, .int (nI w)] S im (pI (pE S im (s_sum f w n))) := by
  refine Mt.of (by decide +kernel) rfl rfl (Nat.le_of_ble_eq_true rfl) ?_
  intro κ hκ C ρ
  subst hκ
  show V E κ 4 0 0 0 [some (.ref M), some (.int (nI w)), none, none] [] S im
  have hn10 := hok.1.1
  have loop : ∀ (r i : Nat), i + r = n → V E κ 4 0 0 4 [some (.ref M), some (.int (nI w)), some (.int (s_sum f w i)), some (.int (nI i))] [] S im := by
    intro r
    induction r with
    | zero =>
      intro i hi
      have hin : i = n := by omega
      refine z_iload_n (pc := 4) C dX7_sumOf_4 rfl ?_
      refine z_aload_n (pc := 5) C dX7_sumOf_5 rfl ?_
      refine gX7_9 (pc := 6) C dX7_sumOf_6 (ml_K hM) (ml_r0 hM) ?_
      refine z_iconstN (pc := 9) C 1 dX7_sumOf_9 ?_
      refine z_iald (pc := 10) C dX7_sumOf_10 (ml_a1 hM) (ml_n1 hM) (by omega) (by decide) ?_
      refine z_eqi (y := nI n) (by rw [hf0]; exact hok.1.2) ?_
      refine z_icmp_geT (pc := 11) C 29 dX7_sumOf_11 (by decide) (nI_le (by omega) (by omega)) ?_
      refine z_iload_n (pc := 29) C dX7_sumOf_29 rfl ?_
      exact z_iret (pc := 30) C ρ dX7_sumOf_30 (⟨_, rfl, by rw [hin], rfl, rfl⟩)
    | succ r ih =>
      intro i hi
      refine z_iload_n (pc := 4) C dX7_sumOf_4 rfl ?_
      refine z_aload_n (pc := 5) C dX7_sumOf_5 rfl ?_
      refine gX7_9 (pc := 6) C dX7_sumOf_6 (ml_K hM) (ml_r0 hM) ?_
      refine z_iconstN (pc := 9) C 1 dX7_sumOf_9 ?_
      refine z_iald (pc := 10) C dX7_sumOf_10 (ml_a1 hM) (ml_n1 hM) (by omega) (by decide) ?_
      refine z_eqi (y := nI n) (by rw [hf0]; exact hok.1.2) ?_
      refine z_icmp_geF (pc := 11) C 29 dX7_sumOf_11 (by decide) (nI_ge (by omega) (by omega)) ?_
      refine z_iload_n (pc := 14) C dX7_sumOf_14 rfl ?_
      refine z_aload_n (pc := 15) C dX7_sumOf_15 rfl ?_
      refine z_iload_n (pc := 16) C dX7_sumOf_16 rfl ?_
      refine z_iload_n (pc := 17) C dX7_sumOf_17 rfl ?_
      refine kX7_106 (pc := 18) C dX7_sumOf_18 (m7_of κ.2.1 E S im M hM i w (by omega) hw) (ml_K hM) (by decide) (Nat.le_of_ble_eq_true rfl) (Nat.le_refl _) (Nat.le_refl _) (fun v_18 S_18 im_18 h_18 => ?_)
      obtain ⟨rfl, rfl, rfl⟩ := h_18
      refine z_eqi (y := f (8 + 7 * i + w)) (by rw [hf0]) ?_
      refine z_iadd (pc := 21) C dX7_sumOf_21 ?_
      refine z_istore_n (pc := 22) C dX7_sumOf_22 (by decide) rfl ?_
      refine z_iincN (pc := 23) C 1 dX7_sumOf_23 rfl (by decide) rfl ?_
      refine z_goto (pc := 26) C 4 dX7_sumOf_26 (by decide) ?_
      exact ih (i + 1) (by omega)
  refine z_iconstN (pc := 0) C 0 dX7_sumOf_0 ?_
  refine z_istore_n (pc := 1) C dX7_sumOf_1 (by decide) rfl ?_
  refine z_iconstN (pc := 2) C 0 dX7_sumOf_2 ?_
  refine z_istore_n (pc := 3) C dX7_sumOf_3 (by decide) rfl ?_
  exact loop n 0 (by omega)
def r_street (f : Nat → Int32) (n : Nat) (x : Int32) : Int32 := if x = nI 0 then f 6 else if x = nI 1 then s_sum f 6 n else if x = nI 2 then s_sum f 2 n else if x = nI 3 then s_sum f 3 n else (-1000000001)
set_option maxRecDepth 100000 in
set_option maxHeartbeats 4000000 in
theorem m7_street (l : Launch) (E : Ex) (S : Sx) (im : Mem) (M : Nat) (hM : ML S M) (n n7 : Nat) (f : Nat → Int32) (hf0 : im (M + 1) = f) (hok : MOk f n n7) (x : Int32) : Mt l E yX7_street cX7_street 2 (some .int) 3 0 0 [.ref M, .int x] S im (pI (pE S im (r_street f n x))) := by
  refine Mt.of (by decide +kernel) rfl rfl (Nat.le_of_ble_eq_true rfl) ?_
  intro κ hκ C ρ
  subst hκ
  show V E κ 2 0 0 0 [some (.ref M), some (.int x)] [] S im
  refine z_iload_n (pc := 0) C dX7_street_0 rfl ?_
  by_cases hs_0 : x = nI 0
  · 
    refine z_eqi (y := nI 0) hs_0 ?_
    refine z_tableIn (off := 31) (pc := 1) C 32 dX7_street_1 (by decide) (by decide) (by decide +kernel) (by decide) ?_
    refine z_aload_n (pc := 32) C dX7_street_32 rfl ?_
    refine gX7_9 (pc := 33) C dX7_street_33 (ml_K hM) (ml_r0 hM) ?_
    refine z_bipushN (pc := 36) C 6 (by decide) dX7_street_36 ?_
    refine z_iald (pc := 38) C dX7_street_38 (ml_a1 hM) (ml_n1 hM) (by omega) (by decide) ?_
    exact z_iret (pc := 39) C ρ dX7_street_39 (⟨_, rfl, by simp only [r_street, if_pos hs_0, hf0], rfl, rfl⟩)
  by_cases hs_1 : x = nI 1
  · 
    refine z_eqi (y := nI 1) hs_1 ?_
    refine z_tableIn (off := 39) (pc := 1) C 40 dX7_street_1 (by decide) (by decide) (by decide +kernel) (by decide) ?_
    refine z_aload_n (pc := 40) C dX7_street_40 rfl ?_
    refine z_bipushN (pc := 41) C 6 (by decide) dX7_street_41 ?_
    refine kX7_170 (pc := 43) C dX7_street_43 (m7_sumOf κ.2.1 E S im M hM n n7 f hf0 hok 6 (by decide)) (ml_K hM) (by decide) (Nat.le_of_ble_eq_true rfl) (Nat.le_refl _) (Nat.le_refl _) (fun v_43 S_43 im_43 h_43 => ?_)
    obtain ⟨rfl, rfl, rfl⟩ := h_43
    exact z_iret (pc := 46) C ρ dX7_street_46 (⟨_, rfl, by simp only [r_street, if_neg hs_0, if_pos hs_1], rfl, rfl⟩)
  by_cases hs_2 : x = nI 2
  · 
    refine z_eqi (y := nI 2) hs_2 ?_
    refine z_tableIn (off := 46) (pc := 1) C 47 dX7_street_1 (by decide) (by decide) (by decide +kernel) (by decide) ?_
    refine z_aload_n (pc := 47) C dX7_street_47 rfl ?_
    refine z_iconstN (pc := 48) C 2 dX7_street_48 ?_
    refine kX7_170 (pc := 49) C dX7_street_49 (m7_sumOf κ.2.1 E S im M hM n n7 f hf0 hok 2 (by decide)) (ml_K hM) (by decide) (Nat.le_of_ble_eq_true rfl) (Nat.le_refl _) (Nat.le_refl _) (fun v_49 S_49 im_49 h_49 => ?_)
    obtain ⟨rfl, rfl, rfl⟩ := h_49
    exact z_iret (pc := 52) C ρ dX7_street_52 (⟨_, rfl, by simp only [r_street, if_neg hs_0, if_neg hs_1, if_pos hs_2], rfl, rfl⟩)
  by_cases hs_3 : x = nI 3
  · 
    refine z_eqi (y := nI 3) hs_3 ?_
    refine z_tableIn (off := 52) (pc := 1) C 53 dX7_street_1 (by decide) (by decide) (by decide +kernel) (by decide) ?_
    refine z_aload_n (pc := 53) C dX7_street_53 rfl ?_
    refine z_iconstN (pc := 54) C 3 dX7_street_54 ?_
    refine kX7_170 (pc := 55) C dX7_street_55 (m7_sumOf κ.2.1 E S im M hM n n7 f hf0 hok 3 (by decide)) (ml_K hM) (by decide) (Nat.le_of_ble_eq_true rfl) (Nat.le_refl _) (Nat.le_refl _) (fun v_55 S_55 im_55 h_55 => ?_)
    obtain ⟨rfl, rfl, rfl⟩ := h_55
    exact z_iret (pc := 58) C ρ dX7_street_58 (⟨_, rfl, by simp only [r_street, if_neg hs_0, if_neg hs_1, if_neg hs_2, if_pos hs_3], rfl, rfl⟩)
  refine z_tableOut (pc := 1) C 59 dX7_street_1 (by have q_0 := lv_neT hs_0 (show (nI 0 : Int32).toInt = 0 by decide); have q_1 := lv_neT hs_1 (show (nI 1 : Int32).toInt = 1 by decide); have q_2 := lv_neT hs_2 (show (nI 2 : Int32).toInt = 2 by decide); have q_3 := lv_neT hs_3 (show (nI 3 : Int32).toInt = 3 by decide); omega) (by decide) ?_
  refine z_ldc (pc := 59) C dX7_street_59 wk_X7_100 ?_
  exact z_iret (pc := 61) C ρ dX7_street_61 (⟨_, rfl, by simp only [r_street, if_neg hs_0, if_neg hs_1, if_neg hs_2, if_neg hs_3], rfl, rfl⟩)
set_option maxRecDepth 100000 in
set_option maxHeartbeats 4000000 in
theorem m7_thinks (l : Launch) (E : Ex) (S : Sx) (im : Mem) (M : Nat) (hM : ML S M)  : Mt l E yX7_thinks cX7_thinks 2 none 1 0 0 [.ref M] S im (pV (fun S' im' => S = S' ∧ (∀ j, j < 78 → im' (M + 6) j = im (M + 1) j) ∧ ∀ a, a ≠ M + 6 → im' a = im a)) := by
  refine Mt.of (by decide +kernel) rfl rfl (Nat.le_of_ble_eq_true rfl) ?_
  intro κ hκ C ρ
  subst hκ
  show V E κ 2 0 0 0 [some (.ref M), none] [] S im
  have loop : ∀ (r i : Nat) (im' : Mem), i + r = 78 → (∀ j, j < i → im' (M + 6) j = im (M + 1) j) → (∀ a, a ≠ M + 6 → im' a = im a) → V E κ 2 0 0 2 [some (.ref M), some (.int (nI i))] [] S im' := by
    intro r
    induction r with
    | zero =>
      intro i im' hi hm hfr
      have hi78 : i = 78 := by omega
      subst hi78
      refine z_iload_n (pc := 2) C dX7_thinks_2 rfl ?_
      refine z_bipushN (pc := 3) C 78 (by decide) dX7_thinks_3 ?_
      refine z_icmp_geT (pc := 5) C 26 dX7_thinks_5 (by decide) (nI_le (Nat.le_refl _) (by decide)) ?_
      exact z_vret (pc := 26) C ρ dX7_thinks_26 (⟨rfl, rfl, hm, hfr⟩)
    | succ r ih =>
      intro i im' hi hm hfr
      refine z_iload_n (pc := 2) C dX7_thinks_2 rfl ?_
      refine z_bipushN (pc := 3) C 78 (by decide) dX7_thinks_3 ?_
      refine z_icmp_geF (pc := 5) C 26 dX7_thinks_5 (by decide) (nI_ge (by omega) (by decide)) ?_
      refine z_aload_n (pc := 8) C dX7_thinks_8 rfl ?_
      refine gX7_30 (pc := 9) C dX7_thinks_9 (ml_K hM) (ml_r7 hM) ?_
      refine z_iload_n (pc := 12) C dX7_thinks_12 rfl ?_
      refine z_aload_n (pc := 13) C dX7_thinks_13 rfl ?_
      refine gX7_9 (pc := 14) C dX7_thinks_14 (ml_K hM) (ml_r0 hM) ?_
      refine z_iload_n (pc := 17) C dX7_thinks_17 rfl ?_
      refine z_iald (pc := 18) C dX7_thinks_18 (ml_a1 hM) (ml_n1 hM) (by omega) (by decide) ?_
      refine z_iast (pc := 19) C dX7_thinks_19 (ml_a6 hM) (ml_n6 hM) (by omega) (by decide) ?_
      refine z_iincN (pc := 20) C 1 dX7_thinks_20 rfl (by decide) rfl ?_
      refine z_goto (pc := 23) C 2 dX7_thinks_23 (by decide) ?_
      refine ih (i + 1) _ (by omega) (fun j hj => ?_) (fun a ha => by rw [up2_n _ _ _ ha]; exact hfr a ha)
      rw [up2_s]
      by_cases e : j = i
      · subst e; rw [upd_s, hfr _ (by omega)]
      · rw [upd_n _ _ e]; exact hm j (by omega)
  refine z_iconstN (pc := 0) C 0 dX7_thinks_0 ?_
  refine z_istore_n (pc := 1) C dX7_thinks_1 (by decide) rfl ?_
  exact loop 78 0 im (by omega) (fun j h => absurd h (Nat.not_lt_zero _)) (fun _ _ => rfl)
set_option maxRecDepth 100000 in
set_option maxHeartbeats 4000000 in
theorem m7_putsBack (l : Launch) (E : Ex) (S : Sx) (im : Mem) (M : Nat) (hM : ML S M)  : Mt l E yX7_putsBack cX7_putsBack 2 none 1 0 0 [.ref M] S im (pV (fun S' im' => S = S' ∧ (∀ j, im' (M + 1) j = if j < 78 then im (M + 6) j else im (M + 1) j) ∧ im' M = upd (im M) 4 (-1) ∧ ∀ a, a ≠ M → a ≠ M + 1 → im' a = im a)) := by
  refine Mt.of (by decide +kernel) rfl rfl (Nat.le_of_ble_eq_true rfl) ?_
  intro κ hκ C ρ
  subst hκ
  show V E κ 2 0 0 0 [some (.ref M), none] [] S im
  have loop : ∀ (r i : Nat) (im' : Mem), i + r = 78 → (∀ j, im' (M + 1) j = if j < i then im (M + 6) j else im (M + 1) j) → (∀ a, a ≠ M + 1 → im' a = im a) → V E κ 2 0 0 2 [some (.ref M), some (.int (nI i))] [] S im' := by
    intro r
    induction r with
    | zero =>
      intro i im' hi hm hfr
      have hi78 : i = 78 := by omega
      subst hi78
      refine z_iload_n (pc := 2) C dX7_putsBack_2 rfl ?_
      refine z_bipushN (pc := 3) C 78 (by decide) dX7_putsBack_3 ?_
      refine z_icmp_geT (pc := 5) C 26 dX7_putsBack_5 (by decide) (nI_le (Nat.le_refl _) (by decide)) ?_
      refine z_aload_n (pc := 26) C dX7_putsBack_26 rfl ?_
      refine z_iconst (v := -1) (pc := 27) C dX7_putsBack_27 (by decide) ?_
      refine pX7_19 (pc := 28) C dX7_putsBack_28 (ml_K hM) ?_
      exact z_vret (pc := 31) C ρ dX7_putsBack_31 (⟨rfl, rfl, by rw [up2_n _ _ _ (by omega)]; exact hm, by rw [up2_s, hfr _ (by omega)], fun a h0 h1 => by rw [up2_n _ _ _ h0]; exact hfr a h1⟩)
    | succ r ih =>
      intro i im' hi hm hfr
      refine z_iload_n (pc := 2) C dX7_putsBack_2 rfl ?_
      refine z_bipushN (pc := 3) C 78 (by decide) dX7_putsBack_3 ?_
      refine z_icmp_geF (pc := 5) C 26 dX7_putsBack_5 (by decide) (nI_ge (by omega) (by decide)) ?_
      refine z_aload_n (pc := 8) C dX7_putsBack_8 rfl ?_
      refine gX7_9 (pc := 9) C dX7_putsBack_9 (ml_K hM) (ml_r0 hM) ?_
      refine z_iload_n (pc := 12) C dX7_putsBack_12 rfl ?_
      refine z_aload_n (pc := 13) C dX7_putsBack_13 rfl ?_
      refine gX7_30 (pc := 14) C dX7_putsBack_14 (ml_K hM) (ml_r7 hM) ?_
      refine z_iload_n (pc := 17) C dX7_putsBack_17 rfl ?_
      refine z_iald (pc := 18) C dX7_putsBack_18 (ml_a6 hM) (ml_n6 hM) (by omega) (by decide) ?_
      refine z_iast (pc := 19) C dX7_putsBack_19 (ml_a1 hM) (ml_n1 hM) (by omega) (by decide) ?_
      refine z_iincN (pc := 20) C 1 dX7_putsBack_20 rfl (by decide) rfl ?_
      refine z_goto (pc := 23) C 2 dX7_putsBack_23 (by decide) ?_
      refine ih (i + 1) _ (by omega) (fun j => ?_) (fun a ha => by rw [up2_n _ _ _ ha]; exact hfr a ha)
      rw [up2_s]
      by_cases e : j = i
      · subst e; rw [upd_s, if_pos (by omega), hfr _ (by omega)]
      · rw [upd_n _ _ e, hm j]
        by_cases h2 : j < i
        · rw [if_pos h2, if_pos (by omega)]
        · rw [if_neg h2, if_neg (by omega)]
  refine z_iconstN (pc := 0) C 0 dX7_putsBack_0 ?_
  refine z_istore_n (pc := 1) C dX7_putsBack_1 (by decide) rfl ?_
  exact loop 78 0 im (by omega) (fun j => by rw [if_neg (Nat.not_lt_zero _)]) (fun _ _ => rfl)
/-- what was thought is put back -/
theorem back_eq {f g b h : Nat → Int32} (hs : sam f g) (hb : ∀ j, j < 78 → b j = f j) (hh : ∀ j, h j = if j < 78 then b j else g j) : h = f := by
  funext j
  rw [hh j]
  by_cases hj : j < 78
  · rw [if_pos hj, hb j hj]
  · rw [if_neg hj, hs.2.2 j (by omega)]
theorem idle_eq {g : Nat → Int32} (h : g 4 = -1) : upd g 4 (-1) = g := by
  funext j
  by_cases e : j = 4
  · subst e; rw [upd_s, h]
  · rw [upd_n _ _ e]
def s_firstN (f : Nat → Int32) (n : Nat) : Int32 := if n = 0 then -1 else nI (ordA f n 0)
set_option maxRecDepth 100000 in
set_option maxHeartbeats 4000000 in
theorem m7_firstNow (l : Launch) (E : Ex) (S : Sx) (im : Mem) (M : Nat) (hM : ML S M) (n n7 : Nat) (f : Nat → Int32) (hf0 : im (M + 1) = f) (hok : MOk f n n7)  : Mt l E yX7_firstNow cX7_firstNow 1 (some .int) 4 0 0 [.ref M] S im (pI (fun v S' im' => s_firstN f n = v ∧ S = S' ∧ frO M im im')) := by
  refine Mt.of (by decide +kernel) rfl rfl (Nat.le_of_ble_eq_true rfl) ?_
  intro κ hκ C ρ
  subst hκ
  show V E κ 1 0 0 0 [some (.ref M)] [] S im
  refine z_aload_n (pc := 0) C dX7_firstNow_0 rfl ?_
  refine gX7_9 (pc := 1) C dX7_firstNow_1 (ml_K hM) (ml_r0 hM) ?_
  refine z_iconstN (pc := 4) C 1 dX7_firstNow_4 ?_
  refine z_iald (pc := 5) C dX7_firstNow_5 (ml_a1 hM) (ml_n1 hM) (by omega) (by decide) ?_
  refine z_eqi (y := nI n) (by rw [hf0]; exact hok.1.2) ?_
  refine z_if_neN (pc := 6) C 11 dX7_firstNow_6 (by decide) (by have := hok.1.1; omega) (fun c_6 => ?_) (fun c_6 => ?_)
  · 
    refine z_aload_n (pc := 11) C dX7_firstNow_11 rfl ?_
    refine kX7_153 (pc := 12) C dX7_firstNow_12 (m7_findOrder κ.2.1 E S im M hM n n7 (by rw [hf0]; exact hok)) (ml_K hM) (by decide) (Nat.le_of_ble_eq_true rfl) (Nat.le_refl _) (Nat.le_refl _) (fun S_12 im_12 h_12 => ?_)
    obtain ⟨rfl, ho1, ho2⟩ := h_12
    rw [hf0] at ho1
    refine z_aload_n (pc := 15) C dX7_firstNow_15 rfl ?_
    refine gX7_23 (pc := 16) C dX7_firstNow_16 (ml_K hM) (ml_r5 hM) ?_
    refine z_iconstN (pc := 19) C 0 dX7_firstNow_19 ?_
    refine z_iald (pc := 20) C dX7_firstNow_20 (ml_a4 hM) (ml_n4 hM) (by omega) (by decide) ?_
    refine z_eqi (y := nI (ordA f n 0)) (ho1 0 (by omega)) ?_
    exact z_iret (pc := 21) C ρ dX7_firstNow_21 (⟨_, rfl, by simp only [s_firstN, if_neg c_6], rfl, ho2⟩)
  · 
    refine z_iconst (v := -1) (pc := 9) C dX7_firstNow_9 (by decide) ?_
    exact z_iret (pc := 10) C ρ dX7_firstNow_10 (⟨_, rfl, by simp only [s_firstN, if_pos c_6], rfl, fun _ _ _ => rfl⟩)
