/-! the class: light -/
theorem end_eq {f : Nat → Int32} {n7 l0 : Nat} {mi : Int32} : s_mx mi (s_mn (mi + s_burns f n7 l0) (f 5)) = s_end f n7 l0 mi := by
  unfold s_end
  rw [← Int32.toInt_inj, mx_toI, mn_toI]
  show _ = (if mi ≤ (if mi + s_burns f n7 l0 ≤ f 5 then mi + s_burns f n7 l0 else f 5) then (if mi + s_burns f n7 l0 ≤ f 5 then mi + s_burns f n7 l0 else f 5) else mi).toInt
  generalize mi + s_burns f n7 l0 = e
  by_cases h : e ≤ f 5
  · rw [if_pos h]
    have h' := Int32.le_iff_toInt_le.mp h
    by_cases h2 : mi ≤ e
    · rw [if_pos h2]; have h2' := Int32.le_iff_toInt_le.mp h2; split <;> split <;> omega
    · rw [if_neg h2]; rw [Int32.le_iff_toInt_le] at h2; split <;> split <;> omega
  · rw [if_neg h]
    rw [Int32.le_iff_toInt_le] at h
    by_cases h2 : mi ≤ f 5
    · rw [if_pos h2]; have h2' := Int32.le_iff_toInt_le.mp h2; split <;> split <;> omega
    · rw [if_neg h2]; rw [Int32.le_iff_toInt_le] at h2; split <;> split <;> omega
theorem end_rng {f : Nat → Int32} {n7 l0 : Nat} {mi : Int32} (h5 : inR 60 999 (f 5)) (hm : inR 0 1000 mi) : mi.toInt ≤ (s_end f n7 l0 mi).toInt ∧ (s_end f n7 l0 mi).toInt ≤ 1000 := by
  rw [← end_eq, mx_toI, mn_toI]
  obtain ⟨a, b⟩ := h5
  obtain ⟨c, d⟩ := hm
  split <;> split <;> omega
theorem end_sub {f : Nat → Int32} {n7 l0 : Nat} {mi : Int32} (h5 : inR 60 999 (f 5)) (hm : inR 0 1000 mi) : inR 0 9999 (s_end f n7 l0 mi - mi) := by
  obtain ⟨a, b⟩ := end_rng (n7 := n7) (l0 := l0) h5 hm
  have e := sub_toI (x := s_end f n7 l0 mi) (y := mi) (a := 0) (b := 1000) (c := 0) (d := 1000) ⟨by have := hm.1; omega, b⟩ hm (by decide) (by decide)
  unfold inR
  rw [e]
  have := hm.1
  omega
theorem drink_rng {k o m : Int32} (ho : inR 0 999 o) (hm : inR 0 9999 m) : 0 ≤ (s_drink k o m).toInt ∧ (s_drink k o m).toInt ≤ o.toInt := by
  rw [← dr_eq ho hm]
  have hd : (m / nI 10).toInt = m.toInt / 10 := by
    rw [lg_idiv_nonneg hm.1 (by rw [nI_toInt (by decide)]; decide), nI_toInt (by decide)]
    rfl
  obtain ⟨a, b⟩ := ho
  obtain ⟨c, d⟩ := hm
  have h6 : inR 0 999 (s_mn (m / nI 10) o) := by
    unfold inR
    rw [mn_toI, hd]
    split <;> omega
  unfold s_drC
  by_cases h4 : k = nI 4
  · rw [if_pos h4, mn_toI, add_toI h6 (nI_inR (k := 5) (by decide)) (by decide) (by decide), mn_toI, hd, nI_toInt (by decide)]
    repeat (first | omega | split)
  · rw [if_neg h4]
    by_cases h5 : k = nI 5
    · rw [if_pos h5, nI_toInt (by decide)]; omega
    · rw [if_neg h5, mn_toI, hd]
      split <;> omega
theorem RG_lights {f : Nat → Int32} {n n7 l0 : Nat} {mi : Int32} (h : RG f n) (hl : l0 < n) (hm : inR 0 1000 mi) : RG (s_lights f n7 l0 mi) n := by
  obtain ⟨h4, h5, hL⟩ := h
  have he := end_rng (n7 := n7) (l0 := l0) h5 hm
  have hd := drink_rng (k := f (8 + 7 * l0 + 0)) (hL l0 hl).2.2.1 (end_sub (n7 := n7) (l0 := l0) h5 hm)
  refine ⟨?_, ?_, fun l hl' => ?_⟩
  · unfold s_lights; rw [upd_n _ _ (by omega), upd_n _ _ (by omega), upd_n _ _ (by omega), upd_n _ _ (by omega)]; exact h4
  · unfold s_lights; rw [upd_n _ _ (by omega), upd_n _ _ (by omega), upd_n _ _ (by omega), upd_n _ _ (by omega)]; exact h5
  · obtain ⟨a0, a1, a2, a3, a4⟩ := hL l hl'
    by_cases e : l = l0
    · subst e
      refine ⟨?_, ?_, ?_, ?_, ?_⟩
      · unfold s_lights; rw [upd_n _ _ (by omega), upd_n _ _ (by omega), upd_n _ _ (by omega), upd_n _ _ (by omega)]; exact a0
      · unfold s_lights; rw [upd_n _ _ (by omega), upd_n _ _ (by omega), upd_n _ _ (by omega), upd_n _ _ (by omega)]; exact a1
      · unfold s_lights; rw [upd_s]
        have e2 := sub_toI (x := f (8 + 7 * l + 2)) (y := s_drink (f (8 + 7 * l + 0)) (f (8 + 7 * l + 2)) (s_end f n7 l mi - mi)) (a := 0) (b := 999) (c := 0) (d := 999) a2 ⟨hd.1, by have := a2.2; omega⟩ (by decide) (by decide)
        unfold inR
        rw [e2]
        have := a2.2
        omega
      · unfold s_lights; rw [upd_n _ _ (by omega), upd_n _ _ (by omega), upd_n _ _ (by omega), upd_n _ _ (by omega)]; exact a3
      · unfold s_lights; rw [upd_n _ _ (by omega), upd_s]; exact ⟨by have := hm.1; omega, by omega⟩
    · refine ⟨?_, ?_, ?_, ?_, ?_⟩ <;> (unfold s_lights; rw [upd_n _ _ (by omega), upd_n _ _ (by omega), upd_n _ _ (by omega), upd_n _ _ (by omega)]; assumption)
theorem SR_light {im im' : Mem} {q n l0 n7 : Nat} {f : Nat → Int32} {mi : Int32} (hr : SR im q f n) (hl : l0 < n) (hq : im' q = im q) (ho : ∀ l, l < n → l ≠ l0 → im' (q + 5 + l) = im (q + 5 + l)) (h0 : im' (q + 5 + l0) 0 = f (8 + 7 * l0 + 0)) (h1 : im' (q + 5 + l0) 1 = f (8 + 7 * l0 + 1)) (h2 : im' (q + 5 + l0) 2 = f (8 + 7 * l0 + 2) - s_drink (f (8 + 7 * l0 + 0)) (f (8 + 7 * l0 + 2)) (s_end f n7 l0 mi - mi)) (h3 : im' (q + 5 + l0) 3 = f (8 + 7 * l0 + 3)) (h4 : im' (q + 5 + l0) 4 = s_end f n7 l0 mi) (h5 : im' (q + 5 + l0) 5 = mi) (h6 : im' (q + 5 + l0) 6 = f (8 + 7 * l0 + 6) + (if f (8 + 7 * l0 + 2) = 0 ∧ ¬ f (8 + 7 * l0 + 0) = nI 5 then nI 1 else nI 0)) : SR im' q (s_lights f n7 l0 mi) n := by
  obtain ⟨⟨a1, a2, a3⟩, ⟨b1, b2, b3, b4, b5, b6, b7⟩, c⟩ := hr
  have out : ∀ j, j < 8 → s_lights f n7 l0 mi j = f j := fun j hj => by unfold s_lights; rw [upd_n _ _ (by omega), upd_n _ _ (by omega), upd_n _ _ (by omega), upd_n _ _ (by omega)]
  rw [SR, hq, out 0 (by decide), out 1 (by decide), out 2 (by decide), out 3 (by decide), out 4 (by decide), out 5 (by decide), out 6 (by decide), out 7 (by decide)]
  refine ⟨⟨a1, a2, a3⟩, ⟨b1, b2, b3, b4, b5, b6, b7⟩, fun l hl' k hk => ?_⟩
  by_cases e : l = l0
  · subst e
    unfold s_lights
    rcases (show k = 0 ∨ k = 1 ∨ k = 2 ∨ k = 3 ∨ k = 4 ∨ k = 5 ∨ k = 6 by omega) with rfl | rfl | rfl | rfl | rfl | rfl | rfl
    · rw [upd_n _ _ (by omega), upd_n _ _ (by omega), upd_n _ _ (by omega), upd_n _ _ (by omega)]; exact h0
    · rw [upd_n _ _ (by omega), upd_n _ _ (by omega), upd_n _ _ (by omega), upd_n _ _ (by omega)]; exact h1
    · rw [upd_s]; exact h2
    · rw [upd_n _ _ (by omega), upd_n _ _ (by omega), upd_n _ _ (by omega), upd_n _ _ (by omega)]; exact h3
    · rw [upd_n _ _ (by omega), upd_s]; exact h4
    · rw [upd_n _ _ (by omega), upd_n _ _ (by omega), upd_s]; exact h5
    · rw [upd_n _ _ (by omega), upd_n _ _ (by omega), upd_n _ _ (by omega), upd_s]; exact h6
  · rw [ho l hl' e]
    unfold s_lights
    rw [upd_n _ _ (by omega), upd_n _ _ (by omega), upd_n _ _ (by omega), upd_n _ _ (by omega)]
    exact c l hl' k hk
theorem SR_fr {im im' : Mem} {q n : Nat} {f : Nat → Int32} (hr : SR im q f n) (hq : im' q = im q) (hl : ∀ l, l < n → im' (q + 5 + l) = im (q + 5 + l)) : SR im' q f n := by
  obtain ⟨a, b, c⟩ := hr
  rw [SR, hq]
  exact ⟨a, b, fun l h k hk => by rw [hl l h]; exact c l h k hk⟩
set_option maxRecDepth 100000 in
set_option maxHeartbeats 4000000 in
theorem c3_light (l : Launch) (E : Ex) (S : Sx) (im : Mem) (q : Nat) (hs : SL S q) (f : Nat → Int32) (n : Nat) (hr : SR im q f n) (X n7 : Nat) (hT : TR S im q X f n7) (hqX : q + 15 ≤ X) (hg : RG f n) (l0 : Nat) (hl : l0 < n) (mi : Int32) (hmi : inR 0 1000 mi) : Mt l E yX3_light cX3_light 4 none 4 0 0 [.ref q, .ref (q + 5 + l0), .int mi] S im (pV (fun S' im' => S = S' ∧ SR im' q (s_lights f n7 l0 mi) n ∧ ∀ a, a ≠ q + 5 + l0 → (a < X ∨ ¬ (a - X) % 3 = 2) → im' a = im a)) := by
  refine Mt.of (by decide +kernel) rfl rfl (Nat.le_of_ble_eq_true rfl) ?_
  intro κ hκ C ρ
  subst hκ
  show V E κ 4 0 0 0 [some (.ref q), some (.ref (q + 5 + l0)), some (.int mi), none] [] S im
  have hn10 := hr.1.1
  have hl10 : l0 < 10 := by omega
  have hgl := hg.2.2 l0 hl
  refine z_aload_n (pc := 0) C dX3_light_0 rfl ?_
  refine z_aload_n (pc := 1) C dX3_light_1 rfl ?_
  refine z_aload_n (pc := 2) C dX3_light_2 rfl ?_
  refine kX3_128 (pc := 3) C dX3_light_3 (c3_burnAsLamp κ.2.1 E S im q hs f n hr X n7 hT hqX hg l0 hl) (sl_K hs) (by decide) (Nat.le_of_ble_eq_true rfl) (Nat.le_refl _) (Nat.le_refl _) (fun v_3 S_3 im_3 h_3 => ?_)
  obtain ⟨rfl, rfl, hfr⟩ := h_3
  have hr3 : SR im_3 q f n := SR_fr hr (hfr q (by omega)) (fun l hl => hfr _ (by omega))
  have tail : ∀ (im1 : Mem), im1 (q + 5 + l0) 6 = (f (8 + 7 * l0 + 6) + (if f (8 + 7 * l0 + 2) = 0 ∧ ¬ f (8 + 7 * l0 + 0) = nI 5 then nI 1 else nI 0)) → (∀ j, j ≠ 6 → im1 (q + 5 + l0) j = im_3 (q + 5 + l0) j) → (∀ a, a ≠ q + 5 + l0 → im1 a = im_3 a) → V E κ 4 0 0 27 [some (.ref q), some (.ref (q + 5 + l0)), some (.int mi), some (.int (s_burns f n7 l0))] [] S im1 := by
    intro im1 h6 hp ho
    refine z_aload_n (pc := 27) C dX3_light_27 rfl ?_
    refine z_iload_n (pc := 28) C dX3_light_28 rfl ?_
    refine pX3_82 (pc := 29) C dX3_light_29 (sl_l hs (i := l0) (by omega)) ?_
    refine z_aload_n (pc := 32) C dX3_light_32 rfl ?_
    refine z_iload_n (pc := 33) C dX3_light_33 rfl ?_
    refine z_iload_n (pc := 34) C dX3_light_34 rfl ?_
    refine z_iload_n (pc := 35) C dX3_light_35 rfl ?_
    refine z_iadd (pc := 36) C dX3_light_36 ?_
    refine z_aload_n (pc := 37) C dX3_light_37 rfl ?_
    refine gX3_21 (pc := 38) C dX3_light_38 (sl_K hs) ?_
    refine z_eqi (y := f 5) (by rw [up2_n _ _ _ (by omega), ho q (by omega)]; exact hr3.2.1.2.2.2.2.1) ?_
    refine z_min (pc := 41) C dX3_light_41 wm_X3_124 (by decide) (Nat.le_of_ble_eq_true rfl) (Nat.zero_le _) (Nat.zero_le _) ?_
    refine z_max (pc := 44) C dX3_light_44 wm_X3_138 (by decide) (Nat.le_of_ble_eq_true rfl) (Nat.zero_le _) (Nat.zero_le _) ?_
    refine z_eqi (y := s_end f n7 l0 mi) (end_eq) ?_
    refine pX3_79 (pc := 47) C dX3_light_47 (sl_l hs (i := l0) (by omega)) ?_
    refine z_aload_n (pc := 50) C dX3_light_50 rfl ?_
    refine z_dup (pc := 51) C dX3_light_51 rfl ?_
    refine gX3_73 (pc := 52) C dX3_light_52 (sl_l hs (i := l0) (by omega)) ?_
    refine z_eqi (y := f (8 + 7 * l0 + 2)) (by rw [up2_at, if_neg (by decide), up2_at, if_neg (by decide), hp 2 (by decide)]; exact hr3.2.2 l0 hl 2 (by decide)) ?_
    refine z_aload_n (pc := 55) C dX3_light_55 rfl ?_
    refine z_aload_n (pc := 56) C dX3_light_56 rfl ?_
    refine gX3_79 (pc := 57) C dX3_light_57 (sl_l hs (i := l0) (by omega)) ?_
    refine z_eqi (y := s_end f n7 l0 mi) (by rw [up2_at, if_pos rfl]) ?_
    refine z_iload_n (pc := 60) C dX3_light_60 rfl ?_
    refine z_isub (pc := 61) C dX3_light_61 ?_
    refine kX3_141 (pc := 62) C dX3_light_62 (c0_drunkIn κ.2.1 E S _ (q + 5 + l0) (sl_l hs hl10) (s_end f n7 l0 mi - mi)) (sl_l hs (i := l0) (by omega)) (by decide) (Nat.le_of_ble_eq_true rfl) (Nat.le_refl _) (Nat.le_refl _) (fun v_62 S_62 im_62 h_62 => ?_)
    obtain ⟨rfl, rfl, rfl⟩ := h_62
    refine z_eqi (y := s_drink (f (8 + 7 * l0 + 0)) (f (8 + 7 * l0 + 2)) (s_end f n7 l0 mi - mi)) (by rw [up2_at, if_neg (by decide), up2_at, if_neg (by decide), hp 0 (by decide), hr3.2.2 l0 hl 0 (by decide), up2_at, if_neg (by decide), up2_at, if_neg (by decide), hp 2 (by decide), hr3.2.2 l0 hl 2 (by decide)]; exact dr_eq hgl.2.2.1 (end_sub hg.2.1 hmi)) ?_
    refine z_isub (pc := 65) C dX3_light_65 ?_
    refine pX3_73 (pc := 66) C dX3_light_66 (sl_l hs (i := l0) (by omega)) ?_
    exact z_vret (pc := 69) C ρ dX3_light_69 (⟨rfl, rfl, SR_light hr3 hl (by rw [up2_n _ _ _ (by omega), up2_n _ _ _ (by omega), up2_n _ _ _ (by omega)]; exact ho q (by omega)) (fun l h1 h2 => by rw [up2_n _ _ _ (by omega), up2_n _ _ _ (by omega), up2_n _ _ _ (by omega)]; exact ho _ (by omega)) (by rw [up2_at, if_neg (by decide), up2_at, if_neg (by decide), up2_at, if_neg (by decide), hp 0 (by decide)]; exact hr3.2.2 l0 hl 0 (by decide)) (by rw [up2_at, if_neg (by decide), up2_at, if_neg (by decide), up2_at, if_neg (by decide), hp 1 (by decide)]; exact hr3.2.2 l0 hl 1 (by decide)) (by rw [up2_at, if_pos rfl]) (by rw [up2_at, if_neg (by decide), up2_at, if_neg (by decide), up2_at, if_neg (by decide), hp 3 (by decide)]; exact hr3.2.2 l0 hl 3 (by decide)) (by rw [up2_at, if_neg (by decide), up2_at, if_pos rfl]) (by rw [up2_at, if_neg (by decide), up2_at, if_neg (by decide), up2_at, if_pos rfl]) (by rw [up2_at, if_neg (by decide), up2_at, if_neg (by decide), up2_at, if_neg (by decide)]; exact h6), fun a h1 h2 => by rw [up2_n _ _ _ h1, up2_n _ _ _ h1, up2_n _ _ _ h1, ho a h1]; exact hfr a h2⟩)
  refine kX3_131 (pc := 6) C dX3_light_6 (c0_burns κ.2.1 E S im_3 (q + 5 + l0) (sl_l hs hl10) (s_plain f n7 (f (8 + 7 * l0 + 2)) (f 4) (f (8 + 7 * l0 + 1)))) (sl_l hs (i := l0) (by omega)) (by decide) (Nat.le_of_ble_eq_true rfl) (Nat.le_refl _) (Nat.le_refl _) (fun v_6 S_6 im_6 h_6 => ?_)
  obtain ⟨rfl, rfl, rfl⟩ := h_6
  refine z_eqi (y := s_burns f n7 l0) (by rw [hr3.2.2 l0 hl 0 (by decide), hr3.2.2 l0 hl 2 (by decide)]; exact bur_eq (s_plain_r hgl.2.2.1 hg.1)) ?_
  refine z_istore_n (pc := 9) C dX3_light_9 (by decide) rfl ?_
  refine z_aload_n (pc := 10) C dX3_light_10 rfl ?_
  refine kX3_134 (pc := 11) C dX3_light_11 (c0_isDry κ.2.1 E S im_3 (q + 5 + l0) (sl_l hs hl10)) (sl_l hs (i := l0) (by omega)) (by decide) (Nat.le_of_ble_eq_true rfl) (Nat.le_refl _) (Nat.le_refl _) (fun v_11 S_11 im_11 h_11 => ?_)
  rcases h_11 with ⟨hb_11, rfl, rfl, rfl⟩ | ⟨hb_11, rfl, rfl, rfl⟩
  · 
    rw [hr3.2.2 l0 hl 0 (by decide), hr3.2.2 l0 hl 2 (by decide)] at hb_11
    refine z_if_eqF (pc := 14) C 27 dX3_light_14 (by decide) (by decide) ?_
    refine z_aload_n (pc := 17) C dX3_light_17 rfl ?_
    refine z_dup (pc := 18) C dX3_light_18 rfl ?_
    refine gX3_85 (pc := 19) C dX3_light_19 (sl_l hs (i := l0) (by omega)) ?_
    refine z_eqi (y := f (8 + 7 * l0 + 6)) (hr3.2.2 l0 hl 6 (by decide)) ?_
    refine z_iconstN (pc := 22) C 1 dX3_light_22 ?_
    refine z_iadd (pc := 23) C dX3_light_23 ?_
    refine pX3_85 (pc := 24) C dX3_light_24 (sl_l hs (i := l0) (by omega)) ?_
    exact tail _ (by rw [up2_at, if_pos rfl, if_pos hb_11]) (fun j hj => by rw [up2_at, if_neg hj]) (fun a ha => up2_n _ _ _ ha)
  · 
    rw [hr3.2.2 l0 hl 0 (by decide), hr3.2.2 l0 hl 2 (by decide)] at hb_11
    refine z_if_eqT (pc := 14) C 27 dX3_light_14 (by decide) (by decide) ?_
    exact tail _ (by rw [if_neg hb_11, nI_0, Int32.add_zero]; exact hr3.2.2 l0 hl 6 (by decide)) (fun _ _ => rfl) (fun _ _ => rfl)
