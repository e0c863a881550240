/-! the class: tell, trim, keep, back, check, feed -/
set_option maxRecDepth 100000 in
set_option maxHeartbeats 4000000 in
theorem c6_tell (l : Launch) (E : Ex) (S : Sx) (im : Mem) (B : Nat) (hC : CL S B) (wt : Nat) (hwt : wt ≤ 60) (hw : im B 8 = nI wt) (x : Int32) : Mt l E yX6_tell cX6_tell 2 (some .int) 1 0 0 [.ref B, .int x] S im (pI (pQ S (r_tell wt) (fun im' => im' = if wt = 60 then im else up2 (up2 im (B + 51) wt x) B 8 (nI (wt + 1))))) := by
  refine Mt.of (by decide +kernel) rfl rfl (Nat.le_of_ble_eq_true rfl) ?_
  intro κ hκ C ρ
  subst hκ
  show V E κ 2 0 0 0 [some (.ref B), some (.int x)] [] S im
  refine z_aload_n (pc := 0) C dX6_tell_0 rfl ?_
  refine gX6_314 (pc := 1) C dX6_tell_1 (cl_K hC) ?_
  refine z_eqi (y := nI wt) (hw) ?_
  refine z_bipushN (pc := 4) C 60 (by decide) dX6_tell_4 ?_
  refine z_icmp_ltN (pc := 6) C 12 dX6_tell_6 (by decide) (by omega) (by omega) (fun c_6 => ?_) (fun c_6 => ?_)
  · 
    refine z_aload_n (pc := 12) C dX6_tell_12 rfl ?_
    refine gX6_41 (pc := 13) C dX6_tell_13 (cl_K hC) (cl_r7 hC) ?_
    refine z_aload_n (pc := 16) C dX6_tell_16 rfl ?_
    refine gX6_314 (pc := 17) C dX6_tell_17 (cl_K hC) ?_
    refine z_eqi (y := nI wt) (hw) ?_
    refine z_iload_n (pc := 20) C dX6_tell_20 rfl ?_
    refine z_iast (pc := 21) C dX6_tell_21 (cl_a51 hC) (cl_n51 hC) (by omega) (by decide) ?_
    refine z_aload_n (pc := 22) C dX6_tell_22 rfl ?_
    refine z_dup (pc := 23) C dX6_tell_23 rfl ?_
    refine gX6_314 (pc := 24) C dX6_tell_24 (cl_K hC) ?_
    refine z_eqi (y := nI wt) (by rw [up2_n _ _ _ (by omega)]; exact hw) ?_
    refine z_iconstN (pc := 27) C 1 dX6_tell_27 ?_
    refine z_iaddN (pc := 28) C dX6_tell_28 ?_
    refine pX6_314 (pc := 29) C dX6_tell_29 (cl_K hC) ?_
    refine z_aload_n (pc := 32) C dX6_tell_32 rfl ?_
    refine gX6_314 (pc := 33) C dX6_tell_33 (cl_K hC) ?_
    refine z_eqi (y := nI (wt + 1)) (by rw [up2_at, if_pos rfl]) ?_
    exact z_iret (pc := 36) C ρ dX6_tell_36 (⟨_, rfl, by rw [r_tell, if_neg (show ¬ wt = 60 by omega)], rfl, by rw [if_neg (show ¬ wt = 60 by omega)]⟩)
  · 
    refine z_ldc (pc := 9) C dX6_tell_9 wk_X6_65 ?_
    exact z_iret (pc := 11) C ρ dX6_tell_11 (⟨_, rfl, by rw [r_tell, if_pos (show wt = 60 by omega)], rfl, by rw [if_pos (show wt = 60 by omega)]⟩)
set_option maxRecDepth 100000 in
set_option maxHeartbeats 4000000 in
theorem c6_trim (l : Launch) (E : Ex) (S : Sx) (im : Mem) (B : Nat) (hC : CL S B) (tp : Nat) (ht : im (B + 46) 1 = nI tp) (x : Int32) : Mt l E yX6_trim cX6_trim 2 (some .int) 2 0 0 [.ref B, .int x] S im (pI (pQ S (r_trim tp x) (fun im' => im' = if nI 0 ≤ x ∧ x ≤ nI tp then up2 im (B + 46) 1 x else im))) := by
  refine Mt.of (by decide +kernel) rfl rfl (Nat.le_of_ble_eq_true rfl) ?_
  intro κ hκ C ρ
  subst hκ
  show V E κ 2 0 0 0 [some (.ref B), some (.int x)] [] S im
  refine z_iload_n (pc := 0) C dX6_trim_0 rfl ?_
  refine z_iconstN (pc := 1) C 0 dX6_trim_1 ?_
  refine z_aload_n (pc := 2) C dX6_trim_2 rfl ?_
  refine gX6_25 (pc := 3) C dX6_trim_3 (cl_K hC) (cl_r4 hC) ?_
  refine gX6_210 (pc := 6) C dX6_trim_6 (cl_kr hC) ?_
  refine z_eqi (y := nI tp) (ht) ?_
  refine kX6_56 (pc := 9) C dX6_trim_9 (c6_within κ.2.1 E S im x (nI 0) (nI tp)) (by decide) (Nat.le_of_ble_eq_true rfl) (Nat.le_refl _) (Nat.le_refl _) (fun v_9 S_9 im_9 h_9 => ?_)
  rcases h_9 with ⟨hb_9, rfl, rfl, rfl⟩ | ⟨hb_9, rfl, rfl, rfl⟩
  · 
    refine z_if_neT (pc := 12) C 18 dX6_trim_12 (by decide) (by decide) ?_
    refine z_aload_n (pc := 18) C dX6_trim_18 rfl ?_
    refine gX6_25 (pc := 19) C dX6_trim_19 (cl_K hC) (cl_r4 hC) ?_
    refine z_iload_n (pc := 22) C dX6_trim_22 rfl ?_
    refine pX6_210 (pc := 23) C dX6_trim_23 (cl_kr hC) ?_
    refine z_iload_n (pc := 26) C dX6_trim_26 rfl ?_
    exact z_iret (pc := 27) C ρ dX6_trim_27 (⟨_, rfl, by simp only [r_trim, if_pos hb_9], rfl, by simp only [if_pos hb_9]⟩)
  · 
    refine z_if_neF (pc := 12) C 18 dX6_trim_12 (by decide) (by decide) ?_
    refine z_ldc (pc := 15) C dX6_trim_15 wk_X6_60 ?_
    exact z_iret (pc := 17) C ρ dX6_trim_17 (⟨_, rfl, by simp only [r_trim, if_neg hb_9], rfl, by simp only [if_neg hb_9]⟩)
set_option maxRecDepth 100000 in
set_option maxHeartbeats 4000000 in
theorem c6_keep (l : Launch) (E : Ex) (S : Sx) (im : Mem) (B : Nat) (hC : CL S B) (X : Nat) (hX : B + 107 ≤ X) (f : Nat → Int32) (n n7 : Nat) (hst : ST S im (B + 1) X f n n7)  : Mt l E yX6_keep cX6_keep 1 (some .int) 3 0 0 [.ref B] S im (pI (fun v S' im' => nI n = v ∧ SX (B + 16) S S' ∧ ST S' im' (B + 16) X f n n7 ∧ im' B = upd (im B) 3 1 ∧ ∀ a, a ≠ B → (a < B + 16 ∨ B + 31 ≤ a) → im' a = im a)) := by
  refine Mt.of (by decide +kernel) rfl rfl (Nat.le_of_ble_eq_true rfl) ?_
  intro κ hκ C ρ
  subst hκ
  show V E κ 1 0 0 0 [some (.ref B)] [] S im
  have hn10 := hst.1.1.1
  have h14 := hst.2.1.1.1
  have hr := hst.1
  have hT := hst.2.1
  have hg := hst.2.2
  have hX1 : B + 1 + 15 ≤ X := by omega
  refine z_aload_n (pc := 0) C dX6_keep_0 rfl ?_
  refine gX6_16 (pc := 1) C dX6_keep_1 (cl_K hC) (cl_r1 hC) ?_
  refine z_aload_n (pc := 4) C dX6_keep_4 rfl ?_
  refine gX6_10 (pc := 5) C dX6_keep_5 (cl_K hC) (cl_r0 hC) ?_
  refine kX6_163 (pc := 8) C dX6_keep_8 (c3_becomes κ.2.1 E S im (B + 16) (cl_s2 hC) (B + 1) (cl_s1 hC) (by omega) X f n n7 hst (by omega) (by omega)) (sl_K (cl_s2 hC)) (by decide) (Nat.le_of_ble_eq_true rfl) (Nat.le_refl _) (Nat.le_refl _) (fun S_8 im_8 h_8 => ?_)
  obtain ⟨sx, ht, -, fq⟩ := h_8
  have hC := CL_X hC sx (Or.inr (Or.inl rfl))
  refine z_aload_n (pc := 11) C dX6_keep_11 rfl ?_
  refine z_iconstN (pc := 12) C 1 dX6_keep_12 ?_
  refine pX6_317 (pc := 13) C dX6_keep_13 (cl_K hC) (by decide) ?_
  refine z_aload_n (pc := 16) C dX6_keep_16 rfl ?_
  refine gX6_16 (pc := 17) C dX6_keep_17 (cl_K hC) (cl_r1 hC) ?_
  refine gX6_61 (pc := 20) C dX6_keep_20 (sl_K (cl_s2 hC)) ?_
  refine z_eqi (y := nI n) (by rw [up2_n _ _ _ (by omega)]; exact ht.1.1.2.2) ?_
  exact z_iret (pc := 23) C ρ dX6_keep_23 (⟨_, rfl, rfl, sx, ST_fr ht (fun a h1 _ _ => up2_n _ _ _ (by omega)) (fun a h1 _ => up2_n _ _ _ (by omega)), by rw [up2_s, fq _ (by omega)]; rfl, fun a h1 h2 => by rw [up2_n _ _ _ h1]; exact fq a h2⟩)
set_option maxRecDepth 100000 in
set_option maxHeartbeats 4000000 in
theorem c6_back (l : Launch) (E : Ex) (S : Sx) (im : Mem) (B : Nat) (hC : CL S B) (X : Nat) (hX : B + 107 ≤ X) (g : Nat → Int32) (m m7 : Nat) (himg : im B 3 ≠ 0 → ST S im (B + 16) X g m m7) : Mt l E yX6_back cX6_back 1 (some .int) 3 0 0 [.ref B] S im (pI (fun v S' im' => r_back (im B 3) g = v ∧ SX (B + 1) S S' ∧ (im B 3 = 0 → S = S' ∧ im = im') ∧ (im B 3 ≠ 0 → ST S' im' (B + 1) X g m m7) ∧ ∀ a, (a < B + 1 ∨ B + 16 ≤ a) → im' a = im a)) := by
  refine Mt.of (by decide +kernel) rfl rfl (Nat.le_of_ble_eq_true rfl) ?_
  intro κ hκ C ρ
  subst hκ
  show V E κ 1 0 0 0 [some (.ref B)] [] S im
  refine z_aload_n (pc := 0) C dX6_back_0 rfl ?_
  refine gX6_317 (pc := 1) C dX6_back_1 (cl_K hC) ?_
  refine z_if_ne (pc := 4) C 11 dX6_back_4 (by decide) (fun c_4 => ?_) (fun c_4 => ?_)
  · 
    refine z_aload_n (pc := 11) C dX6_back_11 rfl ?_
    refine gX6_10 (pc := 12) C dX6_back_12 (cl_K hC) (cl_r0 hC) ?_
    refine z_aload_n (pc := 15) C dX6_back_15 rfl ?_
    refine gX6_16 (pc := 16) C dX6_back_16 (cl_K hC) (cl_r1 hC) ?_
    refine kX6_163 (pc := 19) C dX6_back_19 (c3_becomes κ.2.1 E S im (B + 1) (cl_s1 hC) (B + 16) (cl_s2 hC) (by omega) X g m m7 (himg c_4) (by omega) (by omega)) (sl_K (cl_s1 hC)) (by decide) (Nat.le_of_ble_eq_true rfl) (Nat.le_refl _) (Nat.le_refl _) (fun S_19 im_19 h_19 => ?_)
    obtain ⟨sx, ht, -, fq⟩ := h_19
    have hC := CL_X hC sx (Or.inl rfl)
    refine z_aload_n (pc := 22) C dX6_back_22 rfl ?_
    refine gX6_10 (pc := 23) C dX6_back_23 (cl_K hC) (cl_r0 hC) ?_
    refine gX6_61 (pc := 26) C dX6_back_26 (sl_K (cl_s1 hC)) ?_
    refine z_eqi (y := g 1) (by rw [ht.1.1.2.1]; exact ht.1.1.2.2) ?_
    exact z_iret (pc := 29) C ρ dX6_back_29 (⟨_, rfl, by rw [r_back, if_neg c_4], sx, fun h => absurd h c_4, fun _ => ht, fq⟩)
  · 
    refine z_ldcw (pc := 7) C dX6_back_7 wk_X6_313 ?_
    exact z_iret (pc := 10) C ρ dX6_back_10 (⟨_, rfl, by rw [r_back, if_pos c_4], SX.rf, fun _ => ⟨rfl, rfl⟩, fun h => absurd c_4 h, fun _ _ => rfl⟩)
set_option maxRecDepth 100000 in
set_option maxHeartbeats 4000000 in
theorem c6_waitsAt (l : Launch) (E : Ex) (S : Sx) (im : Mem) (B : Nat) (hC : CL S B) (p wt : Nat) (hp : p < 1000) (hwt : wt ≤ 60) (x : Int32) : Mt l E yX6_waitsAt cX6_waitsAt 4 (some .boolean) 1 0 0 [.ref B, .int (nI p), .int (nI wt), .int x] S im (pI (pB S im (p < wt ∧ im (B + 51) p = x))) := by
  refine Mt.of (by decide +kernel) rfl rfl (Nat.le_of_ble_eq_true rfl) ?_
  intro κ hκ C ρ
  subst hκ
  show V E κ 4 0 0 0 [some (.ref B), some (.int (nI p)), some (.int (nI wt)), some (.int x)] [] S im
  refine z_iload_n (pc := 0) C dX6_waitsAt_0 rfl ?_
  refine z_iload_n (pc := 1) C dX6_waitsAt_1 rfl ?_
  refine z_icmp_geN (pc := 2) C 25 dX6_waitsAt_2 (by decide) (by omega) (by omega) (fun c_2 => ?_) (fun c_2 => ?_)
  · 
    refine z_iconstN (pc := 25) C 0 dX6_waitsAt_25 ?_
    exact z_zret (pc := 26) C ρ dX6_waitsAt_26 (by decide) (⟨_, rfl, Or.inr ⟨fun h => by omega, rfl, rfl, rfl⟩⟩)
  · 
    refine z_iload_n (pc := 5) C dX6_waitsAt_5 rfl ?_
    refine z_bipushN (pc := 6) C 60 (by decide) dX6_waitsAt_6 ?_
    refine z_icmp_geN (pc := 8) C 25 dX6_waitsAt_8 (by decide) (by omega) (by omega) (fun c_8 => ?_) (fun c_8 => ?_)
    · 
      refine z_iconstN (pc := 25) C 0 dX6_waitsAt_25 ?_
      exact z_zret (pc := 26) C ρ dX6_waitsAt_26 (by decide) (⟨_, rfl, Or.inr ⟨fun h => by omega, rfl, rfl, rfl⟩⟩)
    · 
      refine z_aload_n (pc := 11) C dX6_waitsAt_11 rfl ?_
      refine gX6_41 (pc := 12) C dX6_waitsAt_12 (cl_K hC) (cl_r7 hC) ?_
      refine z_iload_n (pc := 15) C dX6_waitsAt_15 rfl ?_
      refine z_iald (pc := 16) C dX6_waitsAt_16 (cl_a51 hC) (cl_n51 hC) (by omega) (by decide) ?_
      refine z_iload_n (pc := 17) C dX6_waitsAt_17 rfl ?_
      refine z_icmp_ne (pc := 18) C 25 dX6_waitsAt_18 (by decide) (fun c_18 => ?_) (fun c_18 => ?_)
      · 
        refine z_iconstN (pc := 25) C 0 dX6_waitsAt_25 ?_
        exact z_zret (pc := 26) C ρ dX6_waitsAt_26 (by decide) (⟨_, rfl, Or.inr ⟨fun h => c_18 h.2, rfl, rfl, rfl⟩⟩)
      · 
        refine z_iconstN (pc := 21) C 1 dX6_waitsAt_21 ?_
        refine z_goto (pc := 22) C 26 dX6_waitsAt_22 (by decide) ?_
        exact z_zret (pc := 26) C ρ dX6_waitsAt_26 (by decide) (⟨_, rfl, Or.inl ⟨⟨by omega, c_18⟩, rfl, rfl, rfl⟩⟩)
set_option maxRecDepth 100000 in
set_option maxHeartbeats 4000000 in
theorem c6_check (l : Launch) (E : Ex) (S : Sx) (im : Mem) (B : Nat) (hC : CL S B) (X : Nat) (hX : B + 107 ≤ X) (wt : Nat) (hwt : wt ≤ 60) (hw : im B 8 = nI wt) (tl : Nat → Int32) (htl : ∀ j, j < 60 → im (B + 51) j = tl j) (h : Nat → Int32) (n n7 : Nat) (himg : im B 3 ≠ 0 → ST S im (B + 16) X h n n7 ∧ inR 0 9999 (h 2)) (x : Int32) : Mt l E yX6_check cX6_check 6 (some .int) 7 0 0 [.ref B, .int x] S im (pI (fun v S' im' => r_check h n n7 tl wt (im B 3) x = v ∧ SX (B + 31) S S' ∧ im' B = upd (im B) 8 (nI 0) ∧ ∀ a, a ≠ B → (a < B + 31 ∨ B + 46 ≤ a) → (a < X ∨ ¬ (a - X) % 3 = 2) → im' a = im a)) := by
  refine Mt.of (by decide +kernel) rfl rfl (Nat.le_of_ble_eq_true rfl) ?_
  intro κ hκ C ρ
  subst hκ
  show V E κ 6 0 0 0 [some (.ref B), some (.int x), none, none, none, none] [] S im
  refine z_aload_n (pc := 0) C dX6_check_0 rfl ?_
  refine gX6_314 (pc := 1) C dX6_check_1 (cl_K hC) ?_
  refine z_eqi (y := nI wt) (hw) ?_
  refine z_istore_n (pc := 4) C dX6_check_4 (by decide) rfl ?_
  refine z_aload_n (pc := 5) C dX6_check_5 rfl ?_
  refine z_iconstN (pc := 6) C 0 dX6_check_6 ?_
  refine pX6_314 (pc := 7) C dX6_check_7 (cl_K hC) ?_
  refine z_iload_n (pc := 10) C dX6_check_10 rfl ?_
  refine z_iconstN (pc := 11) C 1 dX6_check_11 ?_
  refine z_bipushN (pc := 12) C 30 (by decide) dX6_check_12 ?_
  refine kX6_56 (pc := 14) C dX6_check_14 (c6_within κ.2.1 E S (up2 im B 8 (nI 0)) (x) (nI 1) (nI 30)) (by decide) (Nat.le_of_ble_eq_true rfl) (Nat.le_refl _) (Nat.le_refl _) (fun v_14 S_14 im_14 h_14 => ?_)
  rcases h_14 with ⟨hb_14, rfl, rfl, rfl⟩ | ⟨hb_14, rfl, rfl, rfl⟩
  · 
    obtain ⟨x0, hx00, hx0, rfl⟩ := (rng (by decide) (by decide)).mp hb_14
    refine z_if_neT (pc := 17) C 23 dX6_check_17 (by decide) (by decide) ?_
    refine z_aload_n (pc := 23) C dX6_check_23 rfl ?_
    refine gX6_317 (pc := 24) C dX6_check_24 (cl_K hC) ?_
    refine z_eqi (y := im B 3) (by rw [up2_at, if_neg (by decide)]) ?_
    refine z_if_ne (pc := 27) C 34 dX6_check_27 (by decide) (fun c_27 => ?_) (fun c_27 => ?_)
    · 
      obtain ⟨himg0, hnt⟩ := himg c_27
      have hn10 := himg0.1.1.1
      have himg1 : ST S (up2 im B 8 (nI 0)) (B + 16) X h n n7 := ST_fr himg0 (fun a h1 _ _ => up2_n _ _ _ (by omega)) (fun a h1 _ => up2_n _ _ _ (by omega))
      have hkn := nights_mn (f := h) (x0 := x0) hnt (by omega)
      refine z_aload_n (pc := 34) C dX6_check_34 rfl ?_
      refine gX6_19 (pc := 35) C dX6_check_35 (cl_K hC) (cl_r2 hC) ?_
      refine z_aload_n (pc := 38) C dX6_check_38 rfl ?_
      refine gX6_16 (pc := 39) C dX6_check_39 (cl_K hC) (cl_r1 hC) ?_
      refine kX6_163 (pc := 42) C dX6_check_42 (c3_becomes κ.2.1 E S (up2 im B 8 (nI 0)) (B + 31) (cl_s3 hC) (B + 16) (cl_s2 hC) (by omega) X h n n7 himg1 (by omega) (by omega)) (sl_K (cl_s3 hC)) (by decide) (Nat.le_of_ble_eq_true rfl) (Nat.le_refl _) (Nat.le_refl _) (fun S_42 im_42 h_42 => ?_)
      obtain ⟨sx_42, ht_42, -, fq_42⟩ := h_42
      have hC := CL_X hC sx_42 (Or.inr (Or.inr rfl))
      obtain ⟨K, hK⟩ : ∃ K, K = k_nights h (nI x0) := ⟨_, rfl⟩
      have hK30 : K ≤ 30 := by rw [hK]; have := hkn.2.1; omega
      have loop : ∀ (r i : Nat) (im' : Mem), i + r = K → s_ck h n n7 tl wt K 0 = s_ck h n n7 tl wt r i → ST S_42 im' (B + 31) X (s_nights h n n7 (-1) i) n n7 → im' B = upd (im B) 8 (nI 0) → (∀ a, a ≠ B → (a < B + 31 ∨ B + 46 ≤ a) → (a < X ∨ ¬ (a - X) % 3 = 2) → im' a = im a) → V E κ 6 0 0 67 [some (.ref B), some (.int (nI x0)), some (.int (nI wt)), some (.int (nI K)), some (.int (nI (2 * i))), some (.int (nI i))] [] S_42 im' := by
        intro r
        induction r with
        | zero =>
          intro i im' hi hans ht' hB' hfr
          refine z_iload (pc := 67) C dX6_check_67 rfl ?_
          refine z_iload_n (pc := 69) C dX6_check_69 rfl ?_
          refine z_icmp_geT (pc := 70) C 138 dX6_check_70 (by decide) (nI_le (by omega) (by omega)) ?_
          refine z_iload (pc := 138) C dX6_check_138 rfl ?_
          refine z_iload_n (pc := 140) C dX6_check_140 rfl ?_
          refine z_icmp_neN (pc := 141) C 148 dX6_check_141 (by decide) (by omega) (by omega) (fun c_141 => ?_) (fun c_141 => ?_)
          · 
            refine z_iconstN (pc := 148) C 1 dX6_check_148 ?_
            refine z_iload (pc := 149) C dX6_check_149 rfl ?_
            refine z_iaddN (pc := 151) C dX6_check_151 ?_
            exact z_iret (pc := 152) C ρ dX6_check_152 (⟨_, rfl, by rw [r_check, if_pos hb_14, if_neg c_27, ← hK, hans]; show _ = _; rw [show s_ck h n n7 tl wt 0 i = 2 * i from rfl, if_neg c_141], sx_42, hB', hfr⟩)
          · 
            refine z_iconstN (pc := 144) C 0 dX6_check_144 ?_
            refine z_goto (pc := 145) C 152 dX6_check_145 (by decide) ?_
            exact z_iret (pc := 152) C ρ dX6_check_152 (⟨_, rfl, by rw [r_check, if_pos hb_14, if_neg c_27, ← hK, hans]; show _ = _; rw [show s_ck h n n7 tl wt 0 i = 2 * i from rfl, if_pos c_141, if_pos (show 2 * i = 2 * K by omega)], sx_42, hB', hfr⟩)
        | succ r ih =>
          intro i im' hi hans ht' hB' hfr
          refine z_iload (pc := 67) C dX6_check_67 rfl ?_
          refine z_iload_n (pc := 69) C dX6_check_69 rfl ?_
          refine z_icmp_geF (pc := 70) C 138 dX6_check_70 (by decide) (nI_ge (by omega) (by omega)) ?_
          refine z_aload_n (pc := 73) C dX6_check_73 rfl ?_
          refine gX6_19 (pc := 74) C dX6_check_74 (cl_K hC) (cl_r2 hC) ?_
          refine z_iconst (v := -1) (pc := 77) C dX6_check_77 (by decide) ?_
          refine kX6_170 (pc := 78) C dX6_check_78 (c3_passNight κ.2.1 E S_42 im' (B + 31) (cl_s3 hC) (s_nights h n n7 (-1) i) n ht'.1 X n7 ht'.2.1 (by omega) ht'.2.2 (-1)) (sl_K (cl_s3 hC)) (by decide) (Nat.le_of_ble_eq_true rfl) (Nat.le_refl _) (Nat.le_refl _) (fun S_78 im_78 h_78 => ?_)
          obtain ⟨rfl, g1, -, g2, g3⟩ := h_78
          have h78 : ST S_42 im_78 (B + 31) X (s_nights h n n7 (-1) (i + 1)) n n7 := ST_mv ht' g1 (sam_night hn10) (RG_night hn10 ht'.2.2) g2 g3 (by omega)
          have hw78 : ∀ j, j < 60 → im_78 (B + 51) j = tl j := fun j hj => by rw [g3 _ (by omega) (by omega), hfr _ (by omega) (by omega) (by omega)]; exact htl j hj
          have hB78 : im_78 B = upd (im B) 8 (nI 0) := by rw [g3 _ (by omega) (by omega)]; exact hB'
          have hfr78 : ∀ a, a ≠ B → (a < B + 31 ∨ B + 46 ≤ a) → (a < X ∨ ¬ (a - X) % 3 = 2) → im_78 a = im a := fun a h1 h2 h3 => by rw [g3 a (by omega) h3]; exact hfr a h1 h2 h3
          refine z_aload_n (pc := 81) C dX6_check_81 rfl ?_
          refine z_iload (pc := 82) C dX6_check_82 rfl ?_
          refine z_iload_n (pc := 84) C dX6_check_84 rfl ?_
          refine z_aload_n (pc := 85) C dX6_check_85 rfl ?_
          refine gX6_19 (pc := 86) C dX6_check_86 (cl_K hC) (cl_r2 hC) ?_
          refine gX6_144 (pc := 89) C dX6_check_89 (sl_K (cl_s3 hC)) ?_
          refine z_eqi (y := (s_nights h n n7 (-1) (i + 1)) 6) (h78.1.2.1.2.2.2.2.2.1) ?_
          refine kX6_321 (pc := 92) C dX6_check_92 (c6_waitsAt κ.2.1 E S_42 im_78 B hC (2 * i) wt (by omega) hwt ((s_nights h n n7 (-1) (i + 1)) 6)) (cl_K hC) (by decide) (Nat.le_of_ble_eq_true rfl) (Nat.le_refl _) (Nat.le_refl _) (fun v_92 S_92 im_92 h_92 => ?_)
          rcases h_92 with ⟨hb_92, rfl, rfl, rfl⟩ | ⟨hb_92, rfl, rfl, rfl⟩
          · 
            rw [hw78 _ (by omega)] at hb_92
            refine z_if_neT (pc := 95) C 103 dX6_check_95 (by decide) (by decide) ?_
            refine z_iincN (pc := 103) C 1 dX6_check_103 rfl (by decide) rfl ?_
            refine z_aload_n (pc := 106) C dX6_check_106 rfl ?_
            refine z_iload (pc := 107) C dX6_check_107 rfl ?_
            refine z_iload_n (pc := 109) C dX6_check_109 rfl ?_
            refine z_aload_n (pc := 110) C dX6_check_110 rfl ?_
            refine gX6_19 (pc := 111) C dX6_check_111 (cl_K hC) (cl_r2 hC) ?_
            refine z_iconstN (pc := 114) C 4 dX6_check_114 ?_
            refine kX6_160 (pc := 115) C dX6_check_115 (c3_sumOf κ.2.1 E S_42 im_78 (B + 31) (cl_s3 hC) (s_nights h n n7 (-1) (i + 1)) n h78.1 4 (by decide)) (sl_K (cl_s3 hC)) (by decide) (Nat.le_of_ble_eq_true rfl) (Nat.le_refl _) (Nat.le_refl _) (fun v_115 S_115 im_115 h_115 => ?_)
            obtain ⟨rfl, rfl, rfl⟩ := h_115
            refine kX6_321 (pc := 118) C dX6_check_118 (c6_waitsAt κ.2.1 E S_42 im_78 B hC (2 * i + 1) wt (by omega) hwt (s_sum (s_nights h n n7 (-1) (i + 1)) 4 n)) (cl_K hC) (by decide) (Nat.le_of_ble_eq_true rfl) (Nat.le_refl _) (Nat.le_refl _) (fun v_118 S_118 im_118 h_118 => ?_)
            rcases h_118 with ⟨hb_118, rfl, rfl, rfl⟩ | ⟨hb_118, rfl, rfl, rfl⟩
            · 
              rw [hw78 _ (by omega)] at hb_118
              refine z_if_neT (pc := 121) C 129 dX6_check_121 (by decide) (by decide) ?_
              refine z_iincN (pc := 129) C 1 dX6_check_129 rfl (by decide) rfl ?_
              refine z_iincN (pc := 132) C 1 dX6_check_132 rfl (by decide) rfl ?_
              refine z_goto (pc := 135) C 67 dX6_check_135 (by decide) ?_
              exact ih (i + 1) im_78 (by omega) (by rw [hans, s_ck, if_pos hb_92, if_pos hb_118]) h78 hB78 hfr78
            · 
              have hno : ¬ (2 * i + 1 < wt ∧ tl (2 * i + 1) = s_sum (s_nights h n n7 (-1) (i + 1)) 4 n) := fun h => hb_118 ⟨h.1, by rw [hw78 _ (by omega)]; exact h.2⟩
              refine z_if_neF (pc := 121) C 129 dX6_check_121 (by decide) (by decide) ?_
              refine z_iconstN (pc := 124) C 1 dX6_check_124 ?_
              refine z_iload (pc := 125) C dX6_check_125 rfl ?_
              refine z_iaddN (pc := 127) C dX6_check_127 ?_
              exact z_iret (pc := 128) C ρ dX6_check_128 (⟨_, rfl, by rw [r_check, if_pos hb_14, if_neg c_27, ← hK, hans, s_ck, if_pos hb_92, if_neg hno, if_neg (show ¬ 2 * i + 1 = 2 * K by omega), ite_self], sx_42, hB78, hfr78⟩)
          · 
            have hno : ¬ (2 * i < wt ∧ tl (2 * i) = (s_nights h n n7 (-1) (i + 1)) 6) := fun h => hb_92 ⟨h.1, by rw [hw78 _ (by omega)]; exact h.2⟩
            refine z_if_neF (pc := 95) C 103 dX6_check_95 (by decide) (by decide) ?_
            refine z_iconstN (pc := 98) C 1 dX6_check_98 ?_
            refine z_iload (pc := 99) C dX6_check_99 rfl ?_
            refine z_iaddN (pc := 101) C dX6_check_101 ?_
            exact z_iret (pc := 102) C ρ dX6_check_102 (⟨_, rfl, by rw [r_check, if_pos hb_14, if_neg c_27, ← hK, hans, s_ck, if_neg hno, if_neg (show ¬ 2 * i = 2 * K by omega), ite_self], sx_42, hB78, hfr78⟩)
      refine z_iload_n (pc := 45) C dX6_check_45 rfl ?_
      refine z_sipush (v := nI 9999) (pc := 46) C dX6_check_46 (by decide +kernel) ?_
      refine z_aload_n (pc := 49) C dX6_check_49 rfl ?_
      refine gX6_16 (pc := 50) C dX6_check_50 (cl_K hC) (cl_r1 hC) ?_
      refine gX6_147 (pc := 53) C dX6_check_53 (sl_K (cl_s2 hC)) ?_
      refine z_eqi (y := h 2) (by rw [fq_42 _ (by omega)]; exact himg1.1.2.1.2.1) ?_
      refine z_isub (pc := 56) C dX6_check_56 ?_
      refine z_min (pc := 57) C dX6_check_57 wm_X6_117 (by decide) (Nat.le_of_ble_eq_true rfl) (Nat.zero_le _) (Nat.zero_le _) ?_
      refine z_eqi (y := nI K) (by rw [hK]; exact hkn.1) ?_
      refine z_istore_n (pc := 60) C dX6_check_60 (by decide) rfl ?_
      refine z_iconstN (pc := 61) C 0 dX6_check_61 ?_
      refine z_istore (pc := 62) C dX6_check_62 (by decide) rfl ?_
      refine z_iconstN (pc := 64) C 0 dX6_check_64 ?_
      refine z_istore (pc := 65) C dX6_check_65 (by decide) rfl ?_
      exact loop K 0 im_42 (by omega) rfl ht_42 (by rw [fq_42 _ (by omega), up2_s]) (fun a h1 h2 h3 => by rw [fq_42 a h2, up2_n _ _ _ h1])
    · 
      refine z_ldcw (pc := 30) C dX6_check_30 wk_X6_313 ?_
      exact z_iret (pc := 33) C ρ dX6_check_33 (⟨_, rfl, by rw [r_check, if_pos hb_14, if_pos c_27], SX.rf, up2_s _ _ _ _, fun a h1 _ _ => up2_n _ _ _ h1⟩)
  · 
    refine z_if_neF (pc := 17) C 23 dX6_check_17 (by decide) (by decide) ?_
    refine z_ldc (pc := 20) C dX6_check_20 wk_X6_60 ?_
    exact z_iret (pc := 22) C ρ dX6_check_22 (⟨_, rfl, by rw [r_check, if_neg hb_14], SX.rf, up2_s _ _ _ _, fun a h1 _ _ => up2_n _ _ _ h1⟩)
theorem byte_eq (x : Int32) {k : Nat} (hk : k < 4) : (x.toUInt32 >>> ((nI (24 - 8 * k)).toUInt32 &&& Int32.toUInt32 31)).toInt32 &&& nI 255 = (x >>> ((nI 24 - nI 8 * (nI k - nI k / nI 4 * nI 4)) &&& 31)) &&& nI 255 := by
  have hx := x.toBitVec.isLt
  have ex : x.toInt = if 2 * x.toBitVec.toNat < 2 ^ 32 then (x.toBitVec.toNat : Int) else (x.toBitVec.toNat : Int) - (2 ^ 32 : Nat) := BitVec.toInt_eq_toNat_cond _
  rw [pk_and _ 8 (by decide +kernel), pk_and _ 8 (by decide +kernel)]
  congr 1
  have key : ∀ (y : Int32), (y.toBitVec.toNat : Int) % 256 = y.toInt % 256 := fun y => by
    have hy := y.toBitVec.isLt
    have ey : y.toInt = if 2 * y.toBitVec.toNat < 2 ^ 32 then (y.toBitVec.toNat : Int) else (y.toBitVec.toNat : Int) - (2 ^ 32 : Nat) := BitVec.toInt_eq_toNat_cond _
    rw [ey]
    split <;> omega
  rcases (show k = 0 ∨ k = 1 ∨ k = 2 ∨ k = 3 by omega) with rfl | rfl | rfl | rfl
  · have h1 := key (x >>> ((nI 24 - nI 8 * (nI 0 - nI 0 / nI 4 * nI 4)) &&& 31))
    rw [pk_shr x _ 24 (by decide +kernel), Int.shiftRight_eq_div_pow, ex] at h1
    rw [pk_ushr x _ 24 (by decide +kernel)]
    split at h1 <;> omega
  · have h1 := key (x >>> ((nI 24 - nI 8 * (nI 1 - nI 1 / nI 4 * nI 4)) &&& 31))
    rw [pk_shr x _ 16 (by decide +kernel), Int.shiftRight_eq_div_pow, ex] at h1
    rw [pk_ushr x _ 16 (by decide +kernel)]
    split at h1 <;> omega
  · have h1 := key (x >>> ((nI 24 - nI 8 * (nI 2 - nI 2 / nI 4 * nI 4)) &&& 31))
    rw [pk_shr x _ 8 (by decide +kernel), Int.shiftRight_eq_div_pow, ex] at h1
    rw [pk_ushr x _ 8 (by decide +kernel)]
    split at h1 <;> omega
  · have h1 := key (x >>> ((nI 24 - nI 8 * (nI 3 - nI 3 / nI 4 * nI 4)) &&& 31))
    rw [pk_shr x _ 0 (by decide +kernel), Int.shiftRight_eq_div_pow, ex] at h1
    rw [pk_ushr x _ 0 (by decide +kernel)]
    split at h1 <;> omega
def byC (x : Int32) (k : Nat) : Int32 := (x >>> ((nI 24 - nI 8 * (nI k - nI k / nI 4 * nI 4)) &&& 31)) &&& nI 255
set_option maxRecDepth 100000 in
set_option maxHeartbeats 4000000 in
theorem c5_addBytes (l : Launch) (E : Ex) (S : Sx) (im : Mem) (R : Nat) (hk5 : S.2.1 R = 5) (hr0 : S.2.2.2 R 0 = some (R + 1)) (ha1 : S.2.1 (R + 1) = 8) (hn1 : S.2.2.1 (R + 1) = 96) (T : Nat) (hT : T + 4 ≤ 96) (hl : im R 1 = nI T) (x : Int32) : Mt l E yX5_addBytes cX5_addBytes 3 none 1 0 0 [.ref R, .int x] S im (pV (fun S' im' => S = S' ∧ (∀ j, im' (R + 1) j = if T ≤ j ∧ j < T + 4 then byC x (j - T) else im (R + 1) j) ∧ im' R = upd (im R) 1 (nI (T + 4)) ∧ ∀ c, c ≠ R → c ≠ R + 1 → im' c = im c)) := by
  refine Mt.of (by decide +kernel) rfl rfl (Nat.le_of_ble_eq_true rfl) ?_
  intro κ hκ C ρ
  subst hκ
  show V E κ 3 0 0 0 [some (.ref R), some (.int x), none] [] S im
  have h4 : ∀ (im' : Mem), (∀ j, im' (R + 1) j = if T ≤ j ∧ j < T + 4 then byC x (j - T) else im (R + 1) j) → im' R = upd (im R) 1 (nI (T + 4)) → (∀ c, c ≠ R → c ≠ R + 1 → im' c = im c) → V E κ 3 0 0 3 [some (.ref R), some (.int x), some (.int (-8))] [] S im' := by
    intro im' ha hb hc
    refine z_iload_n (pc := 3) C dX5_addBytes_3 rfl ?_
    refine z_if_ltT (pc := 4) C 48 dX5_addBytes_4 (by decide) (by decide) ?_
    exact z_vret (pc := 48) C ρ dX5_addBytes_48 (⟨rfl, rfl, ha, hb, hc⟩)
  have h3 : ∀ (im' : Mem), (∀ j, im' (R + 1) j = if T ≤ j ∧ j < T + 3 then byC x (j - T) else im (R + 1) j) → im' R = upd (im R) 1 (nI (T + 3)) → (∀ c, c ≠ R → c ≠ R + 1 → im' c = im c) → V E κ 3 0 0 3 [some (.ref R), some (.int x), some (.int (nI 0))] [] S im' := by
    intro im' ha hb hc
    refine z_iload_n (pc := 3) C dX5_addBytes_3 rfl ?_
    refine z_if_ltF (pc := 4) C 48 dX5_addBytes_4 (by decide) (by decide) ?_
    refine z_aload_n (pc := 7) C dX5_addBytes_7 rfl ?_
    refine gX5_18 (pc := 8) C dX5_addBytes_8 hk5 ?_
    refine z_eqi (y := nI (T + 3)) (by rw [hb, upd_s]) ?_
    refine z_bipushN (pc := 11) C 96 (by decide) dX5_addBytes_11 ?_
    refine z_icmp_geF (pc := 13) C 48 dX5_addBytes_13 (by decide) (nI_ge (by omega) (by omega)) ?_
    refine z_aload_n (pc := 16) C dX5_addBytes_16 rfl ?_
    refine gX5_9 (pc := 17) C dX5_addBytes_17 hk5 hr0 ?_
    refine z_aload_n (pc := 20) C dX5_addBytes_20 rfl ?_
    refine gX5_18 (pc := 21) C dX5_addBytes_21 hk5 ?_
    refine z_eqi (y := nI (T + 3)) (by rw [hb, upd_s]) ?_
    refine z_iload_n (pc := 24) C dX5_addBytes_24 rfl ?_
    refine z_iload_n (pc := 25) C dX5_addBytes_25 rfl ?_
    refine z_iushr (pc := 26) C dX5_addBytes_26 ?_
    refine z_sipush (v := nI 255) (pc := 27) C dX5_addBytes_27 (by decide +kernel) ?_
    refine z_iand (pc := 30) C dX5_addBytes_30 ?_
    refine z_eqi (y := byC x 3) (byte_eq x (k := 3) (by decide)) ?_
    refine z_iast (pc := 31) C dX5_addBytes_31 ha1 hn1 (by omega) (by decide) ?_
    refine z_aload_n (pc := 32) C dX5_addBytes_32 rfl ?_
    refine z_dup (pc := 33) C dX5_addBytes_33 rfl ?_
    refine gX5_18 (pc := 34) C dX5_addBytes_34 hk5 ?_
    refine z_eqi (y := nI (T + 3)) (by rw [up2_n _ _ _ (by omega), hb, upd_s]) ?_
    refine z_iconstN (pc := 37) C 1 dX5_addBytes_37 ?_
    refine z_iaddN (pc := 38) C dX5_addBytes_38 ?_
    refine pX5_18 (pc := 39) C dX5_addBytes_39 hk5 ?_
    refine z_iinc (pc := 42) C dX5_addBytes_42 rfl (show nI 0 + Int32.ofInt (-8) = -8 by decide +kernel) (by decide) rfl ?_
    refine z_goto (pc := 45) C 3 dX5_addBytes_45 (by decide) ?_
    refine h4 _ (fun j => ?_) (by rw [up2_s, up2_n _ _ _ (by omega), hb, upd_upd]) (fun c h1 h2 => by rw [up2_n _ _ _ h1, up2_n _ _ _ h2]; exact hc c h1 h2)
    rw [up2_n _ _ _ (by omega), up2_at]
    by_cases e : j = T + 3
    · rw [if_pos e, if_pos (by omega), e, show T + 3 - T = 3 by omega]
    · rw [if_neg e, ha j]
      by_cases e2 : T ≤ j ∧ j < T + 3
      · rw [if_pos e2, if_pos (by omega)]
      · rw [if_neg e2, if_neg (by omega)]
  have h2 : ∀ (im' : Mem), (∀ j, im' (R + 1) j = if T ≤ j ∧ j < T + 2 then byC x (j - T) else im (R + 1) j) → im' R = upd (im R) 1 (nI (T + 2)) → (∀ c, c ≠ R → c ≠ R + 1 → im' c = im c) → V E κ 3 0 0 3 [some (.ref R), some (.int x), some (.int (nI 8))] [] S im' := by
    intro im' ha hb hc
    refine z_iload_n (pc := 3) C dX5_addBytes_3 rfl ?_
    refine z_if_ltF (pc := 4) C 48 dX5_addBytes_4 (by decide) (by decide) ?_
    refine z_aload_n (pc := 7) C dX5_addBytes_7 rfl ?_
    refine gX5_18 (pc := 8) C dX5_addBytes_8 hk5 ?_
    refine z_eqi (y := nI (T + 2)) (by rw [hb, upd_s]) ?_
    refine z_bipushN (pc := 11) C 96 (by decide) dX5_addBytes_11 ?_
    refine z_icmp_geF (pc := 13) C 48 dX5_addBytes_13 (by decide) (nI_ge (by omega) (by omega)) ?_
    refine z_aload_n (pc := 16) C dX5_addBytes_16 rfl ?_
    refine gX5_9 (pc := 17) C dX5_addBytes_17 hk5 hr0 ?_
    refine z_aload_n (pc := 20) C dX5_addBytes_20 rfl ?_
    refine gX5_18 (pc := 21) C dX5_addBytes_21 hk5 ?_
    refine z_eqi (y := nI (T + 2)) (by rw [hb, upd_s]) ?_
    refine z_iload_n (pc := 24) C dX5_addBytes_24 rfl ?_
    refine z_iload_n (pc := 25) C dX5_addBytes_25 rfl ?_
    refine z_iushr (pc := 26) C dX5_addBytes_26 ?_
    refine z_sipush (v := nI 255) (pc := 27) C dX5_addBytes_27 (by decide +kernel) ?_
    refine z_iand (pc := 30) C dX5_addBytes_30 ?_
    refine z_eqi (y := byC x 2) (byte_eq x (k := 2) (by decide)) ?_
    refine z_iast (pc := 31) C dX5_addBytes_31 ha1 hn1 (by omega) (by decide) ?_
    refine z_aload_n (pc := 32) C dX5_addBytes_32 rfl ?_
    refine z_dup (pc := 33) C dX5_addBytes_33 rfl ?_
    refine gX5_18 (pc := 34) C dX5_addBytes_34 hk5 ?_
    refine z_eqi (y := nI (T + 2)) (by rw [up2_n _ _ _ (by omega), hb, upd_s]) ?_
    refine z_iconstN (pc := 37) C 1 dX5_addBytes_37 ?_
    refine z_iaddN (pc := 38) C dX5_addBytes_38 ?_
    refine pX5_18 (pc := 39) C dX5_addBytes_39 hk5 ?_
    refine z_iinc (pc := 42) C dX5_addBytes_42 rfl (show nI 8 + Int32.ofInt (-8) = nI 0 by decide +kernel) (by decide) rfl ?_
    refine z_goto (pc := 45) C 3 dX5_addBytes_45 (by decide) ?_
    refine h3 _ (fun j => ?_) (by rw [up2_s, up2_n _ _ _ (by omega), hb, upd_upd]) (fun c h1 h2 => by rw [up2_n _ _ _ h1, up2_n _ _ _ h2]; exact hc c h1 h2)
    rw [up2_n _ _ _ (by omega), up2_at]
    by_cases e : j = T + 2
    · rw [if_pos e, if_pos (by omega), e, show T + 2 - T = 2 by omega]
    · rw [if_neg e, ha j]
      by_cases e2 : T ≤ j ∧ j < T + 2
      · rw [if_pos e2, if_pos (by omega)]
      · rw [if_neg e2, if_neg (by omega)]
  have h1 : ∀ (im' : Mem), (∀ j, im' (R + 1) j = if T ≤ j ∧ j < T + 1 then byC x (j - T) else im (R + 1) j) → im' R = upd (im R) 1 (nI (T + 1)) → (∀ c, c ≠ R → c ≠ R + 1 → im' c = im c) → V E κ 3 0 0 3 [some (.ref R), some (.int x), some (.int (nI 16))] [] S im' := by
    intro im' ha hb hc
    refine z_iload_n (pc := 3) C dX5_addBytes_3 rfl ?_
    refine z_if_ltF (pc := 4) C 48 dX5_addBytes_4 (by decide) (by decide) ?_
    refine z_aload_n (pc := 7) C dX5_addBytes_7 rfl ?_
    refine gX5_18 (pc := 8) C dX5_addBytes_8 hk5 ?_
    refine z_eqi (y := nI (T + 1)) (by rw [hb, upd_s]) ?_
    refine z_bipushN (pc := 11) C 96 (by decide) dX5_addBytes_11 ?_
    refine z_icmp_geF (pc := 13) C 48 dX5_addBytes_13 (by decide) (nI_ge (by omega) (by omega)) ?_
    refine z_aload_n (pc := 16) C dX5_addBytes_16 rfl ?_
    refine gX5_9 (pc := 17) C dX5_addBytes_17 hk5 hr0 ?_
    refine z_aload_n (pc := 20) C dX5_addBytes_20 rfl ?_
    refine gX5_18 (pc := 21) C dX5_addBytes_21 hk5 ?_
    refine z_eqi (y := nI (T + 1)) (by rw [hb, upd_s]) ?_
    refine z_iload_n (pc := 24) C dX5_addBytes_24 rfl ?_
    refine z_iload_n (pc := 25) C dX5_addBytes_25 rfl ?_
    refine z_iushr (pc := 26) C dX5_addBytes_26 ?_
    refine z_sipush (v := nI 255) (pc := 27) C dX5_addBytes_27 (by decide +kernel) ?_
    refine z_iand (pc := 30) C dX5_addBytes_30 ?_
    refine z_eqi (y := byC x 1) (byte_eq x (k := 1) (by decide)) ?_
    refine z_iast (pc := 31) C dX5_addBytes_31 ha1 hn1 (by omega) (by decide) ?_
    refine z_aload_n (pc := 32) C dX5_addBytes_32 rfl ?_
    refine z_dup (pc := 33) C dX5_addBytes_33 rfl ?_
    refine gX5_18 (pc := 34) C dX5_addBytes_34 hk5 ?_
    refine z_eqi (y := nI (T + 1)) (by rw [up2_n _ _ _ (by omega), hb, upd_s]) ?_
    refine z_iconstN (pc := 37) C 1 dX5_addBytes_37 ?_
    refine z_iaddN (pc := 38) C dX5_addBytes_38 ?_
    refine pX5_18 (pc := 39) C dX5_addBytes_39 hk5 ?_
    refine z_iinc (pc := 42) C dX5_addBytes_42 rfl (show nI 16 + Int32.ofInt (-8) = nI 8 by decide +kernel) (by decide) rfl ?_
    refine z_goto (pc := 45) C 3 dX5_addBytes_45 (by decide) ?_
    refine h2 _ (fun j => ?_) (by rw [up2_s, up2_n _ _ _ (by omega), hb, upd_upd]) (fun c h1 h2 => by rw [up2_n _ _ _ h1, up2_n _ _ _ h2]; exact hc c h1 h2)
    rw [up2_n _ _ _ (by omega), up2_at]
    by_cases e : j = T + 1
    · rw [if_pos e, if_pos (by omega), e, show T + 1 - T = 1 by omega]
    · rw [if_neg e, ha j]
      by_cases e2 : T ≤ j ∧ j < T + 1
      · rw [if_pos e2, if_pos (by omega)]
      · rw [if_neg e2, if_neg (by omega)]
  have h0 : ∀ (im' : Mem), (∀ j, im' (R + 1) j = if T ≤ j ∧ j < T + 0 then byC x (j - T) else im (R + 1) j) → im' R = upd (im R) 1 (nI (T + 0)) → (∀ c, c ≠ R → c ≠ R + 1 → im' c = im c) → V E κ 3 0 0 3 [some (.ref R), some (.int x), some (.int (nI 24))] [] S im' := by
    intro im' ha hb hc
    refine z_iload_n (pc := 3) C dX5_addBytes_3 rfl ?_
    refine z_if_ltF (pc := 4) C 48 dX5_addBytes_4 (by decide) (by decide) ?_
    refine z_aload_n (pc := 7) C dX5_addBytes_7 rfl ?_
    refine gX5_18 (pc := 8) C dX5_addBytes_8 hk5 ?_
    refine z_eqi (y := nI (T + 0)) (by rw [hb, upd_s]) ?_
    refine z_bipushN (pc := 11) C 96 (by decide) dX5_addBytes_11 ?_
    refine z_icmp_geF (pc := 13) C 48 dX5_addBytes_13 (by decide) (nI_ge (by omega) (by omega)) ?_
    refine z_aload_n (pc := 16) C dX5_addBytes_16 rfl ?_
    refine gX5_9 (pc := 17) C dX5_addBytes_17 hk5 hr0 ?_
    refine z_aload_n (pc := 20) C dX5_addBytes_20 rfl ?_
    refine gX5_18 (pc := 21) C dX5_addBytes_21 hk5 ?_
    refine z_eqi (y := nI (T + 0)) (by rw [hb, upd_s]) ?_
    refine z_iload_n (pc := 24) C dX5_addBytes_24 rfl ?_
    refine z_iload_n (pc := 25) C dX5_addBytes_25 rfl ?_
    refine z_iushr (pc := 26) C dX5_addBytes_26 ?_
    refine z_sipush (v := nI 255) (pc := 27) C dX5_addBytes_27 (by decide +kernel) ?_
    refine z_iand (pc := 30) C dX5_addBytes_30 ?_
    refine z_eqi (y := byC x 0) (byte_eq x (k := 0) (by decide)) ?_
    refine z_iast (pc := 31) C dX5_addBytes_31 ha1 hn1 (by omega) (by decide) ?_
    refine z_aload_n (pc := 32) C dX5_addBytes_32 rfl ?_
    refine z_dup (pc := 33) C dX5_addBytes_33 rfl ?_
    refine gX5_18 (pc := 34) C dX5_addBytes_34 hk5 ?_
    refine z_eqi (y := nI (T + 0)) (by rw [up2_n _ _ _ (by omega), hb, upd_s]) ?_
    refine z_iconstN (pc := 37) C 1 dX5_addBytes_37 ?_
    refine z_iaddN (pc := 38) C dX5_addBytes_38 ?_
    refine pX5_18 (pc := 39) C dX5_addBytes_39 hk5 ?_
    refine z_iinc (pc := 42) C dX5_addBytes_42 rfl (show nI 24 + Int32.ofInt (-8) = nI 16 by decide +kernel) (by decide) rfl ?_
    refine z_goto (pc := 45) C 3 dX5_addBytes_45 (by decide) ?_
    refine h1 _ (fun j => ?_) (by rw [up2_s, up2_n _ _ _ (by omega), hb, upd_upd]) (fun c h1 h2 => by rw [up2_n _ _ _ h1, up2_n _ _ _ h2]; exact hc c h1 h2)
    rw [up2_n _ _ _ (by omega), up2_at]
    by_cases e : j = T + 0
    · rw [if_pos e, if_pos (by omega), e, show T + 0 - T = 0 by omega]
    · rw [if_neg e, ha j]
      by_cases e2 : T ≤ j ∧ j < T + 0
      · rw [if_pos e2, if_pos (by omega)]
      · rw [if_neg e2, if_neg (by omega)]
  refine z_bipushN (pc := 0) C 24 (by decide) dX5_addBytes_0 ?_
  refine z_istore_n (pc := 2) C dX5_addBytes_2 (by decide) rfl ?_
  exact h0 im (fun j => by rw [if_neg (by omega)]) (by rw [Nat.add_zero, upd_id hl]) (fun _ _ _ => rfl)
def g_feedC (B : Nat) (im : Mem) (tp : Nat) (a b c : Int32) (im' : Mem) : Prop := if tp + 12 ≤ 96 then ((∀ j, im' (B + 47) j = if tp ≤ j ∧ j < tp + 12 then s_byte a b c (j - tp) else im (B + 47) j) ∧ im' (B + 46) = upd (im (B + 46)) 1 (nI (tp + 12)) ∧ ∀ d, d ≠ B + 46 → d ≠ B + 47 → im' d = im d) else im' = im
theorem by_mod {x : Int32} {k j : Nat} (h : k < 12) (e : k % 4 = j) (hj : j < 4) : byC x j = (x >>> ((nI 24 - nI 8 * (nI k - nI k / nI 4 * nI 4)) &&& 31)) &&& nI 255 := by
  unfold byC
  rw [pk_rem (by omega) (by decide) (by decide), pk_rem (by omega) (by decide) (by decide), e, show j % 4 = j by omega]
theorem s_by {a b c : Int32} {k : Nat} (h : k < 12) : s_byte a b c k = byC (if k < 4 then a else if k < 8 then b else c) (k % 4) := by
  rw [by_mod h rfl (by omega)]
  rfl
set_option maxRecDepth 100000 in
set_option maxHeartbeats 4000000 in
theorem c6_feed (l : Launch) (E : Ex) (S : Sx) (im : Mem) (B : Nat) (hC : CL S B) (tp : Nat) (htp : tp ≤ 96) (ht : im (B + 46) 1 = nI tp) (a b c : Int32) : Mt l E yX6_feed cX6_feed 4 (some .int) 2 0 0 [.ref B, .int a, .int b, .int c] S im (pI (pQ S (r_feed tp) (g_feedC B im tp a b c))) := by
  refine Mt.of (by decide +kernel) rfl rfl (Nat.le_of_ble_eq_true rfl) ?_
  intro κ hκ C ρ
  subst hκ
  show V E κ 4 0 0 0 [some (.ref B), some (.int a), some (.int b), some (.int c)] [] S im
  refine z_aload_n (pc := 0) C dX6_feed_0 rfl ?_
  refine gX6_25 (pc := 1) C dX6_feed_1 (cl_K hC) (cl_r4 hC) ?_
  refine gX6_210 (pc := 4) C dX6_feed_4 (cl_kr hC) ?_
  refine z_eqi (y := nI tp) (ht) ?_
  refine z_bipushN (pc := 7) C 12 (by decide) dX6_feed_7 ?_
  refine z_iaddN (pc := 9) C dX6_feed_9 ?_
  refine z_bipushN (pc := 10) C 96 (by decide) dX6_feed_10 ?_
  refine z_icmp_leN (pc := 12) C 18 dX6_feed_12 (by decide) (by omega) (by omega) (fun c_12 => ?_) (fun c_12 => ?_)
  · 
    refine z_aload_n (pc := 18) C dX6_feed_18 rfl ?_
    refine gX6_25 (pc := 19) C dX6_feed_19 (cl_K hC) (cl_r4 hC) ?_
    refine z_iload_n (pc := 22) C dX6_feed_22 rfl ?_
    refine kX6_213 (pc := 23) C dX6_feed_23 (c5_addBytes κ.2.1 E S im (B + 46) (cl_kr hC) (cl_t0 hC) (cl_a47 hC) (cl_n47 hC) (tp) (by omega) (ht) a) (cl_kr hC) (by decide) (Nat.le_of_ble_eq_true rfl) (Nat.le_refl _) (Nat.le_refl _) (fun S_23 im_23 h_23 => ?_)
    obtain ⟨rfl, a_23, b_23, c_23⟩ := h_23
    refine z_aload_n (pc := 26) C dX6_feed_26 rfl ?_
    refine gX6_25 (pc := 27) C dX6_feed_27 (cl_K hC) (cl_r4 hC) ?_
    refine z_iload_n (pc := 30) C dX6_feed_30 rfl ?_
    refine kX6_213 (pc := 31) C dX6_feed_31 (c5_addBytes κ.2.1 E S im_23 (B + 46) (cl_kr hC) (cl_t0 hC) (cl_a47 hC) (cl_n47 hC) (tp + 4) (by omega) (by rw [b_23, upd_s]) b) (cl_kr hC) (by decide) (Nat.le_of_ble_eq_true rfl) (Nat.le_refl _) (Nat.le_refl _) (fun S_31 im_31 h_31 => ?_)
    obtain ⟨rfl, a_31, b_31, c_31⟩ := h_31
    refine z_aload_n (pc := 34) C dX6_feed_34 rfl ?_
    refine gX6_25 (pc := 35) C dX6_feed_35 (cl_K hC) (cl_r4 hC) ?_
    refine z_iload_n (pc := 38) C dX6_feed_38 rfl ?_
    refine kX6_213 (pc := 39) C dX6_feed_39 (c5_addBytes κ.2.1 E S im_31 (B + 46) (cl_kr hC) (cl_t0 hC) (cl_a47 hC) (cl_n47 hC) (tp + 4 + 4) (by omega) (by rw [b_31, upd_s]) c) (cl_kr hC) (by decide) (Nat.le_of_ble_eq_true rfl) (Nat.le_refl _) (Nat.le_refl _) (fun S_39 im_39 h_39 => ?_)
    obtain ⟨rfl, a_39, b_39, c_39⟩ := h_39
    refine z_aload_n (pc := 42) C dX6_feed_42 rfl ?_
    refine gX6_25 (pc := 43) C dX6_feed_43 (cl_K hC) (cl_r4 hC) ?_
    refine gX6_210 (pc := 46) C dX6_feed_46 (cl_kr hC) ?_
    refine z_eqi (y := nI (tp + 12)) (by rw [b_39, upd_s]) ?_
    exact z_iret (pc := 49) C ρ dX6_feed_49 (⟨_, rfl, by rw [r_feed, if_pos c_12], rfl, by rw [g_feedC, if_pos c_12]; exact ⟨fun j => by rw [a_39 j, a_31 j, a_23 j]; by_cases e0 : tp ≤ j ∧ j < tp + 12; (rw [if_pos e0, s_by (by omega)]; by_cases e1 : j < tp + 4; (rw [if_neg (by omega), if_neg (by omega), if_pos (by omega), if_pos (by omega), show (j - tp) % 4 = j - tp by omega]); rw [if_neg (show ¬ j - tp < 4 by omega)]; by_cases e2 : j < tp + 8; (rw [if_neg (by omega), if_pos (by omega), if_pos (by omega), show (j - tp) % 4 = j - (tp + 4) by omega]); rw [if_pos (by omega), if_neg (by omega), show (j - tp) % 4 = j - (tp + 4 + 4) by omega]); rw [if_neg e0, if_neg (by omega), if_neg (by omega), if_neg (by omega)], by rw [b_39, b_31, b_23, upd_upd, upd_upd], fun d h1 h2 => by rw [c_39 d h1 h2, c_31 d h1 h2, c_23 d h1 h2]⟩⟩)
  · 
    refine z_ldc (pc := 15) C dX6_feed_15 wk_X6_65 ?_
    exact z_iret (pc := 17) C ρ dX6_feed_17 (⟨_, rfl, by rw [r_feed, if_neg c_12], rfl, by rw [g_feedC, if_neg c_12]⟩)
