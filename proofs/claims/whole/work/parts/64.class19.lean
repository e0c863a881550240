/-! the class: isOf, passNights, sheets -/
def PW (k w : Nat) : Prop := w = 0 ∨ k = w ∨ (w = 1 ∧ k = 3) ∨ (w = 2 ∧ k = 4)
theorem under_PW {k w : Nat} (hk : k < 6) (hw : w < 6) : s_under (nI k) (nI w) ↔ PW k w := by
  unfold s_under PW
  rw [← nI_0, nI_eq (by omega) (by omega), nI_eq (by omega) (by omega), nI_eq (by omega) (by omega), nI_eq (by omega) (by omega), nI_eq (by omega) (by omega), nI_eq (by omega) (by omega)]
theorem m1_ne {w : Nat} (h : w < 6) : ¬ (-1 : Int32) = nI w := by
  rcases (show w = 0 ∨ w = 1 ∨ w = 2 ∨ w = 3 ∨ w = 4 ∨ w = 5 by omega) with rfl | rfl | rfl | rfl | rfl | rfl <;> decide
set_option maxRecDepth 100000 in
set_option maxHeartbeats 4000000 in
theorem c0_isOf (l : Launch) (E : Ex) (S : Sx) (im : Mem) (q : Nat) (hq : S.2.1 q = 0) (k w : Nat) (hk : k < 6) (hw : w < 6) (hkd : im q 0 = nI k) : Mt l E yX0_isOf cX0_isOf 4 (some .boolean) 2 0 0 [.ref q, .int (nI w)] S im (pI (pB S im (s_under (nI k) (nI w)))) := by
  refine Mt.of (by decide +kernel) rfl rfl (Nat.le_of_ble_eq_true rfl) ?_
  intro κ hκ C ρ
  subst hκ
  show V E κ 4 0 0 0 [some (.ref q), some (.int (nI w)), none, none] [] S im
  have fin : ∀ (one : Int32) (i : Nat), (one = nI w → s_under (nI k) (nI w)) → (s_under (nI k) (nI w) → one = nI w) → V E κ 4 0 0 37 [some (.ref q), some (.int (nI w)), some (.int one), some (.int (nI i))] [] S im := by
    intro one i hp hq2
    refine z_iload_n (pc := 37) C dX0_isOf_37 rfl ?_
    refine z_iload_n (pc := 38) C dX0_isOf_38 rfl ?_
    refine z_icmp_ne (pc := 39) C 46 dX0_isOf_39 (by decide) (fun c_39 => ?_) (fun c_39 => ?_)
    · 
      refine z_iconstN (pc := 46) C 0 dX0_isOf_46 ?_
      exact z_zret (pc := 47) C ρ dX0_isOf_47 (by decide) (⟨_, rfl, Or.inr ⟨fun h => c_39 (hq2 h), rfl, rfl, rfl⟩⟩)
    · 
      refine z_iconstN (pc := 42) C 1 dX0_isOf_42 ?_
      refine z_goto (pc := 43) C 47 dX0_isOf_43 (by decide) ?_
      exact z_zret (pc := 47) C ρ dX0_isOf_47 (by decide) (⟨_, rfl, Or.inl ⟨hp c_39, rfl, rfl, rfl⟩⟩)
  have stop : ∀ (i : Nat), i < 6 → ¬ s_under (nI k) (nI w) → V E κ 4 0 0 7 [some (.ref q), some (.int (nI w)), some (.int (-1)), some (.int (nI i))] [] S im := by
    intro i hi hP
    refine z_iload_n (pc := 7) C dX0_isOf_7 rfl ?_
    refine z_bipushN (pc := 8) C 6 (by decide) dX0_isOf_8 ?_
    refine z_icmp_geF (pc := 10) C 37 dX0_isOf_10 (by decide) (nI_ge (by omega) (by omega)) ?_
    refine z_iload_n (pc := 13) C dX0_isOf_13 rfl ?_
    refine kX0_33 (pc := 14) C dX0_isOf_14 (c0_isKind κ.2.1 E S im (-1)) (by decide) (Nat.le_of_ble_eq_true rfl) (Nat.le_refl _) (Nat.le_refl _) (fun v_14 S_14 im_14 h_14 => ?_)
    rcases h_14 with ⟨hb_14, rfl, rfl, rfl⟩ | ⟨hb_14, rfl, rfl, rfl⟩
    · 
      exact absurd hb_14.1 (by decide)
    · 
      refine z_if_eqT (pc := 17) C 37 dX0_isOf_17 (by decide) (by decide) ?_
      exact fin (-1) i (fun h => absurd h (m1_ne hw)) (fun h => absurd h hP)
  have step : ∀ (a i : Nat) (b : Int32), a < 6 → i < 6 → ([-1, 0, 0, 1, 2, 0] : List Int32).getD a 0 = b → (a = w → s_under (nI k) (nI w)) → (¬ a = w → V E κ 4 0 0 7 [some (.ref q), some (.int (nI w)), some (.int b), some (.int (nI (i + 1)))] [] S im) → V E κ 4 0 0 7 [some (.ref q), some (.int (nI w)), some (.int (nI a)), some (.int (nI i))] [] S im := by
    intro a i b ha hi hb hA hB
    refine z_iload_n (pc := 7) C dX0_isOf_7 rfl ?_
    refine z_bipushN (pc := 8) C 6 (by decide) dX0_isOf_8 ?_
    refine z_icmp_geF (pc := 10) C 37 dX0_isOf_10 (by decide) (nI_ge (by omega) (by omega)) ?_
    refine z_iload_n (pc := 13) C dX0_isOf_13 rfl ?_
    refine kX0_33 (pc := 14) C dX0_isOf_14 (c0_isKind κ.2.1 E S im (nI a)) (by decide) (Nat.le_of_ble_eq_true rfl) (Nat.le_refl _) (Nat.le_refl _) (fun v_14 S_14 im_14 h_14 => ?_)
    rcases h_14 with ⟨hb_14, rfl, rfl, rfl⟩ | ⟨hb_14, rfl, rfl, rfl⟩
    · 
      refine z_if_eqF (pc := 17) C 37 dX0_isOf_17 (by decide) (by decide) ?_
      refine z_iload_n (pc := 20) C dX0_isOf_20 rfl ?_
      refine z_iload_n (pc := 21) C dX0_isOf_21 rfl ?_
      refine z_icmp_eqN (pc := 22) C 37 dX0_isOf_22 (by decide) (by omega) (by omega) (fun c_22 => ?_) (fun c_22 => ?_)
      · 
        exact fin (nI a) i (fun _ => hA c_22) (fun _ => by rw [c_22])
      · 
        refine z_gets (pc := 25) C dX0_isOf_25 wf_X0_37 ?_
        refine z_iload_n (pc := 28) C dX0_isOf_28 rfl ?_
        refine z_sald (pc := 29) C dX0_isOf_29 (ha) ?_
        rw [hb]
        refine z_istore_n (pc := 30) C dX0_isOf_30 (by decide) rfl ?_
        refine z_iincN (pc := 31) C 1 dX0_isOf_31 rfl (by decide) rfl ?_
        refine z_goto (pc := 34) C 7 dX0_isOf_34 (by decide) ?_
        exact hB c_22
    · 
      exact absurd ((rng (by decide) (by decide)).mpr ⟨a, by omega, by omega, rfl⟩) hb_14
  have hu := under_PW hk hw
  unfold PW at hu
  refine z_aload_n (pc := 0) C dX0_isOf_0 rfl ?_
  refine gX0_11 (pc := 1) C dX0_isOf_1 hq ?_
  refine z_eqi (y := nI k) (hkd) ?_
  refine z_istore_n (pc := 4) C dX0_isOf_4 (by decide) rfl ?_
  refine z_iconstN (pc := 5) C 0 dX0_isOf_5 ?_
  refine z_istore_n (pc := 6) C dX0_isOf_6 (by decide) rfl ?_
  rcases (show k = 0 ∨ k = 1 ∨ k = 2 ∨ k = 3 ∨ k = 4 ∨ k = 5 by omega) with rfl | rfl | rfl | rfl | rfl | rfl
  · exact step 0 0 (-1) (by decide) (by decide) (by decide) (fun h => hu.mpr (by omega)) (fun h0 => stop 1 (by decide) (fun h => by have := hu.mp h; omega))
  · exact step 1 0 (nI 0) (by decide) (by decide) (by decide) (fun h => hu.mpr (by omega)) (fun h0 => step 0 1 (-1) (by decide) (by decide) (by decide) (fun h => hu.mpr (by omega)) (fun h1 => stop 2 (by decide) (fun h => by have := hu.mp h; omega)))
  · exact step 2 0 (nI 0) (by decide) (by decide) (by decide) (fun h => hu.mpr (by omega)) (fun h0 => step 0 1 (-1) (by decide) (by decide) (by decide) (fun h => hu.mpr (by omega)) (fun h1 => stop 2 (by decide) (fun h => by have := hu.mp h; omega)))
  · exact step 3 0 (nI 1) (by decide) (by decide) (by decide) (fun h => hu.mpr (by omega)) (fun h0 => step 1 1 (nI 0) (by decide) (by decide) (by decide) (fun h => hu.mpr (by omega)) (fun h1 => step 0 2 (-1) (by decide) (by decide) (by decide) (fun h => hu.mpr (by omega)) (fun h2 => stop 3 (by decide) (fun h => by have := hu.mp h; omega))))
  · exact step 4 0 (nI 2) (by decide) (by decide) (by decide) (fun h => hu.mpr (by omega)) (fun h0 => step 2 1 (nI 0) (by decide) (by decide) (by decide) (fun h => hu.mpr (by omega)) (fun h1 => step 0 2 (-1) (by decide) (by decide) (by decide) (fun h => hu.mpr (by omega)) (fun h2 => stop 3 (by decide) (fun h => by have := hu.mp h; omega))))
  · exact step 5 0 (nI 0) (by decide) (by decide) (by decide) (fun h => hu.mpr (by omega)) (fun h0 => step 0 1 (-1) (by decide) (by decide) (by decide) (fun h => hu.mpr (by omega)) (fun h1 => stop 2 (by decide) (fun h => by have := hu.mp h; omega)))
/-- a street and its texts, in their ranges -/
def ST (S : Sx) (im : Mem) (q X : Nat) (f : Nat → Int32) (n n7 : Nat) : Prop := SR im q f n ∧ TR S im q X f n7 ∧ RG f n
theorem ST_mv {S : Sx} {im im' : Mem} {q X n n7 : Nat} {f g : Nat → Int32} (h : ST S im q X f n n7) (hr : SR im' q g n) (hs : sam f g) (hg : RG g n) (hq : im' (q + 4) = im (q + 4)) (hf : frQ q X im im') (hX : q + 15 ≤ X) : ST S im' q X g n n7 := ⟨hr, TR_mv h.2.1 hs (by rw [hr.2.1.2.2.2.2.2.2, hs.2.1]; exact h.2.1.1.2.2) hq (fun a h1 h2 => hf a (by omega) (Or.inr h2)), hg⟩
theorem ST_fr {S : Sx} {im im' : Mem} {q X n n7 : Nat} {f : Nat → Int32} (h : ST S im q X f n n7) (hc : ∀ a, q ≤ a → a < q + 15 → a ≠ q + 2 → im' a = im a) (hf : ∀ a, X ≤ a → ¬ (a - X) % 3 = 2 → im' a = im a) : ST S im' q X f n n7 := by
  have hn := h.1.1.1
  exact ⟨SR_fr h.1 (hc q (by omega) (by omega) (by omega)) (fun l hl => hc _ (by omega) (by omega) (by omega)), TR_mv h.2.1 sam.rf (by rw [hc q (by omega) (by omega) (by omega)]; exact h.2.1.1.2.1) (hc _ (by omega) (by omega) (by omega)) hf, h.2.2⟩
set_option maxRecDepth 100000 in
set_option maxHeartbeats 4000000 in
theorem c3_passNights (l : Launch) (E : Ex) (S : Sx) (im : Mem) (q : Nat) (hs : SL S q) (X : Nat) (f : Nat → Int32) (n n7 : Nat) (hst : ST S im q X f n n7) (hqX : q + 15 ≤ X) (k : Nat) (hk : k < 10000) (sp : Int32) : Mt l E yX3_passNights cX3_passNights 4 none 6 0 0 [.ref q, .int (nI k), .int sp] S im (pV (fun S' im' => S = S' ∧ ST S im' q X (s_nights f n n7 sp k) n n7 ∧ im' (q + 4) = im (q + 4) ∧ frQ q X im im')) := by
  refine Mt.of (by decide +kernel) rfl rfl (Nat.le_of_ble_eq_true rfl) ?_
  intro κ hκ C ρ
  subst hκ
  show V E κ 4 0 0 0 [some (.ref q), some (.int (nI k)), some (.int sp), none] [] S im
  have hn10 := hst.1.1.1
  have loop : ∀ (r i : Nat) (im' : Mem), i + r = k → ST S im' q X (s_nights f n n7 sp i) n n7 → im' (q + 4) = im (q + 4) → frQ q X im im' → V E κ 4 0 0 2 [some (.ref q), some (.int (nI k)), some (.int sp), some (.int (nI i))] [] S im' := by
    intro r
    induction r with
    | zero =>
      intro i im' hi h' h4 hfr
      refine z_iload_n (pc := 2) C dX3_passNights_2 rfl ?_
      refine z_iload_n (pc := 3) C dX3_passNights_3 rfl ?_
      refine z_icmp_geT (pc := 4) C 18 dX3_passNights_4 (by decide) (nI_le (by omega) (by omega)) ?_
      exact z_vret (pc := 18) C ρ dX3_passNights_18 (⟨rfl, rfl, by rw [show k = i by omega]; exact h', h4, hfr⟩)
    | succ r ih =>
      intro i im' hi h' h4 hfr
      refine z_iload_n (pc := 2) C dX3_passNights_2 rfl ?_
      refine z_iload_n (pc := 3) C dX3_passNights_3 rfl ?_
      refine z_icmp_geF (pc := 4) C 18 dX3_passNights_4 (by decide) (nI_ge (by omega) (by omega)) ?_
      refine z_aload_n (pc := 7) C dX3_passNights_7 rfl ?_
      refine z_iload_n (pc := 8) C dX3_passNights_8 rfl ?_
      refine kX3_112 (pc := 9) C dX3_passNights_9 (c3_passNight κ.2.1 E S im' q hs (s_nights f n n7 sp i) n h'.1 X n7 h'.2.1 hqX h'.2.2 sp) (sl_K hs) (by decide) (Nat.le_of_ble_eq_true rfl) (Nat.le_refl _) (Nat.le_refl _) (fun S_9 im_9 h_9 => ?_)
      obtain ⟨rfl, g1, -, g2, g3⟩ := h_9
      refine z_iincN (pc := 12) C 1 dX3_passNights_12 rfl (by decide) rfl ?_
      refine z_goto (pc := 15) C 2 dX3_passNights_15 (by decide) ?_
      exact ih (i + 1) _ (by omega) (ST_mv h' g1 (sam_night hn10) (RG_night hn10 h'.2.2) g2 g3 hqX) (g2.trans h4) (hfr.tr g3)
  refine z_iconstN (pc := 0) C 0 dX3_passNights_0 ?_
  refine z_istore_n (pc := 1) C dX3_passNights_1 (by decide) rfl ?_
  exact loop k 0 im (by omega) hst rfl frQ.rf
theorem cpy24 {f g : Nat → Int32} (j : Nat) : va_cpy f g 0 0 24 j = if j < 24 then f j else g j := by
  unfold va_cpy
  by_cases h : j < 24
  · rw [if_pos (by omega), if_pos h, Nat.zero_add, Nat.sub_zero]
  · rw [if_neg (by omega), if_neg h]
set_option maxRecDepth 100000 in
set_option maxHeartbeats 4000000 in
theorem c1_becomes (l : Launch) (E : Ex) (S : Sx) (im : Mem) (q : Nat) (hs : TL S q) (p : Nat) (hs2 : TL S p) (hne : p ≠ q ∧ p + 1 ≠ q ∧ p ≠ q + 1) : Mt l E yX1_becomes cX1_becomes 2 none 2 0 0 [.ref q, .ref p] S im (pV (fun S' im' => S = S' ∧ im' q = upd (upd (im q) 0 (im p 0)) 1 (im p 1) ∧ (∀ j, im' (q + 1) j = if j < 24 then im (p + 1) j else im (q + 1) j) ∧ ∀ c, c ≠ q → c ≠ q + 1 → im' c = im c)) := by
  refine Mt.of (by decide +kernel) rfl rfl (Nat.le_of_ble_eq_true rfl) ?_
  intro κ hκ C ρ
  subst hκ
  show V E κ 2 0 0 0 [some (.ref q), some (.ref p)] [] S im
  refine z_aload_n (pc := 0) C dX1_becomes_0 rfl ?_
  refine z_aload_n (pc := 1) C dX1_becomes_1 rfl ?_
  refine gX1_11 (pc := 2) C dX1_becomes_2 hs2.1 ?_
  refine pX1_11 (pc := 5) C dX1_becomes_5 hs.1 ?_
  refine z_aload_n (pc := 8) C dX1_becomes_8 rfl ?_
  refine z_aload_n (pc := 9) C dX1_becomes_9 rfl ?_
  refine gX1_28 (pc := 10) C dX1_becomes_10 hs2.1 ?_
  refine pX1_28 (pc := 13) C dX1_becomes_13 hs.1 ?_
  refine z_aload_n (pc := 16) C dX1_becomes_16 rfl ?_
  refine gX1_15 (pc := 17) C dX1_becomes_17 hs2.1 hs2.2.1 ?_
  refine z_iconstN (pc := 20) C 0 dX1_becomes_20 ?_
  refine z_aload_n (pc := 21) C dX1_becomes_21 rfl ?_
  refine gX1_15 (pc := 22) C dX1_becomes_22 hs.1 hs.2.1 ?_
  refine z_iconstN (pc := 25) C 0 dX1_becomes_25 ?_
  refine z_bipushN (pc := 26) C 24 (by decide) dX1_becomes_26 ?_
  refine z_copyi (pc := 28) C dX1_becomes_28 wm_X1_31 hs2.2.2.1 hs2.2.2.2 hs.2.2.1 hs.2.2.2 (by omega) (by omega) (by decide) (by decide) (by decide) (Nat.le_of_ble_eq_true rfl) ?_
  exact z_vret (pc := 31) C ρ dX1_becomes_31 (⟨rfl, rfl, by rw [up_n _ _ (by omega), up2_s, up2_s, up2_n _ _ _ hne.1], fun j => by rw [up_s, cpy24, up2_n _ _ _ (by omega), up2_n _ _ _ (by omega), up2_n _ _ _ (by omega), up2_n _ _ _ (by omega)], fun c h1 h2 => by rw [up_n _ _ h2, up2_n _ _ _ h1, up2_n _ _ _ h1]⟩)
set_option maxRecDepth 100000 in
set_option maxHeartbeats 4000000 in
theorem c1_hasPlaces (l : Launch) (E : Ex) (S : Sx) (im : Mem) (q : Nat) (hs : TL S q) (a b : Int32) : Mt l E yX1_hasPlaces cX1_hasPlaces 3 (some .boolean) 1 0 0 [.ref q, .int a, .int b] S im (pI (pB S im (nI 0 ≤ a ∧ nI 0 ≤ b ∧ a ≤ im q 1 ∧ b ≤ im q 1 - a))) := by
  refine Mt.of (by decide +kernel) rfl rfl (Nat.le_of_ble_eq_true rfl) ?_
  intro κ hκ C ρ
  subst hκ
  show V E κ 3 0 0 0 [some (.ref q), some (.int a), some (.int b)] [] S im
  refine z_iconstN (pc := 0) C 0 dX1_hasPlaces_0 ?_
  refine z_iload_n (pc := 1) C dX1_hasPlaces_1 rfl ?_
  refine z_icmp_gt (pc := 2) C 32 dX1_hasPlaces_2 (by decide) (fun c_2 => ?_) (fun c_2 => ?_)
  · 
    refine z_iconstN (pc := 32) C 0 dX1_hasPlaces_32 ?_
    exact z_zret (pc := 33) C ρ dX1_hasPlaces_33 (by decide) (⟨_, rfl, Or.inr ⟨fun h => i_nlt c_2 h.1, rfl, rfl, rfl⟩⟩)
  · 
    refine z_iconstN (pc := 5) C 0 dX1_hasPlaces_5 ?_
    refine z_iload_n (pc := 6) C dX1_hasPlaces_6 rfl ?_
    refine z_icmp_gt (pc := 7) C 32 dX1_hasPlaces_7 (by decide) (fun c_7 => ?_) (fun c_7 => ?_)
    · 
      refine z_iconstN (pc := 32) C 0 dX1_hasPlaces_32 ?_
      exact z_zret (pc := 33) C ρ dX1_hasPlaces_33 (by decide) (⟨_, rfl, Or.inr ⟨fun h => i_nlt c_7 h.2.1, rfl, rfl, rfl⟩⟩)
    · 
      refine z_iload_n (pc := 10) C dX1_hasPlaces_10 rfl ?_
      refine z_aload_n (pc := 11) C dX1_hasPlaces_11 rfl ?_
      refine gX1_28 (pc := 12) C dX1_hasPlaces_12 hs.1 ?_
      refine z_icmp_gt (pc := 15) C 32 dX1_hasPlaces_15 (by decide) (fun c_15 => ?_) (fun c_15 => ?_)
      · 
        refine z_iconstN (pc := 32) C 0 dX1_hasPlaces_32 ?_
        exact z_zret (pc := 33) C ρ dX1_hasPlaces_33 (by decide) (⟨_, rfl, Or.inr ⟨fun h => i_nlt c_15 h.2.2.1, rfl, rfl, rfl⟩⟩)
      · 
        refine z_iload_n (pc := 18) C dX1_hasPlaces_18 rfl ?_
        refine z_aload_n (pc := 19) C dX1_hasPlaces_19 rfl ?_
        refine gX1_28 (pc := 20) C dX1_hasPlaces_20 hs.1 ?_
        refine z_iload_n (pc := 23) C dX1_hasPlaces_23 rfl ?_
        refine z_isub (pc := 24) C dX1_hasPlaces_24 ?_
        refine z_icmp_gt (pc := 25) C 32 dX1_hasPlaces_25 (by decide) (fun c_25 => ?_) (fun c_25 => ?_)
        · 
          refine z_iconstN (pc := 32) C 0 dX1_hasPlaces_32 ?_
          exact z_zret (pc := 33) C ρ dX1_hasPlaces_33 (by decide) (⟨_, rfl, Or.inr ⟨fun h => i_nlt c_25 h.2.2.2, rfl, rfl, rfl⟩⟩)
        · 
          refine z_iconstN (pc := 28) C 1 dX1_hasPlaces_28 ?_
          refine z_goto (pc := 29) C 33 dX1_hasPlaces_29 (by decide) ?_
          exact z_zret (pc := 33) C ρ dX1_hasPlaces_33 (by decide) (⟨_, rfl, Or.inl ⟨⟨i_le c_2, i_le c_7, i_le c_15, i_le c_25⟩, rfl, rfl, rfl⟩⟩)
