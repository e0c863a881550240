/-! the class: readOne, text -/
theorem RLay_e {S S' : Sx} {R : Nat} (h : RLay S R) (e : ∀ a, R ≤ a → a < R + 3 → sE S S' a) : RLay S' R := by
  obtain ⟨h1, h2, h3, ⟨h4, h5⟩, h6, h7⟩ := h
  have e0 := e R (by omega) (by omega)
  have e1 := e (R + 1) (by omega) (by omega)
  have e2 := e (R + 2) (by omega) (by omega)
  exact ⟨e0.1.trans h1, (congrFun e0.2.2 0).trans h2, (congrFun e0.2.2 7).trans h3, ⟨e1.1.trans h4, e1.2.1.trans h5⟩, e2.1.trans h6, e2.2.1.trans h7⟩
set_option maxRecDepth 100000 in
set_option maxHeartbeats 4000000 in
theorem c5_readOne (l : Launch) (E : Ex) (S : Sx) (im : Mem) (R : Nat) (hR : RLay S R) (y : Nat) (N : S.1 = y + 0) (hRy : R + 3 ≤ y) (key o m u : Nat) (hm : m ≤ 96) (ho : o ≤ 97) (hu : u = max o 1) (h5 : im R 5 = nI key) (h6 : im R 6 = nI o) (h8 : im R 8 = nI m) : Mt l E yX5_readOne cX5_readOne 2 (some (.object "LampOrder$Text")) 3 3 200 [.ref R] S im (pA (fun v S' im' => v = some (y + 1) ∧ S'.1 = y + 3 ∧ TXL S' y m u ∧ (∀ a, a < y → sE S S' a) ∧ (∀ k, k < m → im' y k = im (R + 2) k) ∧ im' (y + 1) 0 = nI key ∧ im' (y + 1) 1 = nI o ∧ ∀ a, a < y → im' a = im a)) := by
  refine Mt.of (by decide +kernel) rfl rfl (Nat.le_of_ble_eq_true rfl) ?_
  intro κ hκ C ρ
  subst hκ
  show V E κ 2 0 0 0 [some (.ref R), none] [] S im
  have K := hR.1
  refine z_aload_n (pc := 0) C dX5_readOne_0 rfl ?_
  refine gX5_31 (pc := 1) C dX5_readOne_1 K ?_
  refine z_eqi (y := nI m) (h8) ?_
  refine z_newi (pc := 4) C dX5_readOne_4 (by omega) (by omega) (by omega) ?_
  obtain ⟨S1, im1, eS1, eI1, n1, k1, l1, r1, a1, z1, b1⟩ := nS_all (c := 8) (n := m) (im := im) N
  rw [← eS1, ← eI1, N]
  have K : S1.2.1 R = 5 := (a1 R (by omega)).1.trans K
  have N : S1.1 = y + 1 := n1
  have hR := RLay_e hR (fun a h1 h2 => a1 a (by omega))
  have ky0 : S1.2.1 (y + 0) = 8 := k1
  have ly0 : S1.2.2.1 (y + 0) = m := l1
  refine z_astore_n (pc := 6) C dX5_readOne_6 (by decide) rfl ?_
  refine z_aload_n (pc := 7) C dX5_readOne_7 rfl ?_
  refine gX5_15 (pc := 8) C dX5_readOne_8 K hR.2.2.1 ?_
  refine z_iconstN (pc := 11) C 0 dX5_readOne_11 ?_
  refine z_aload_n (pc := 12) C dX5_readOne_12 rfl ?_
  refine z_iconstN (pc := 13) C 0 dX5_readOne_13 ?_
  refine z_aload_n (pc := 14) C dX5_readOne_14 rfl ?_
  refine gX5_31 (pc := 15) C dX5_readOne_15 K ?_
  refine z_eqi (y := nI m) (by rw [b1 _ (by omega)]; exact h8) ?_
  refine z_copyi (pc := 18) C dX5_readOne_18 wm_X5_48 hR.2.2.2.2.1 hR.2.2.2.2.2 ky0 ly0 (by omega) (by omega) (by decide) (by omega) (by decide) (Nat.le_of_ble_eq_true rfl) ?_
  refine nX5_54 (pc := 21) C dX5_readOne_21 (by omega) (by omega) ?_
  obtain ⟨S2, im2, eS2, eI2, n2, k2, l2, r2, a2, z2, b2⟩ := nS_all (c := 4) (n := 0) (im := va_up im1 (y + 0) (va_cpy (im1 (R + 2)) (im1 (y + 0)) 0 0 m)) N
  rw [← eS2, ← eI2, N]
  have K : S2.2.1 R = 5 := (a2 R (by omega)).1.trans K
  have N : S2.1 = y + 2 := n2
  have hR := RLay_e hR (fun a h1 h2 => a2 a (by omega))
  refine z_dup (pc := 24) C dX5_readOne_24 rfl ?_
  refine z_aload_n (pc := 25) C dX5_readOne_25 rfl ?_
  refine gX5_41 (pc := 26) C dX5_readOne_26 K ?_
  refine z_eqi (y := nI key) (by rw [b2 _ (by omega), up_n _ _ (by omega), b1 _ (by omega)]; exact h5) ?_
  refine z_aload_n (pc := 29) C dX5_readOne_29 rfl ?_
  refine gX5_28 (pc := 30) C dX5_readOne_30 K ?_
  refine z_eqi (y := nI o) (by rw [b2 _ (by omega), up_n _ _ (by omega), b1 _ (by omega)]; exact h6) ?_
  refine z_aload_n (pc := 33) C dX5_readOne_33 rfl ?_
  refine kX5_56 (pc := 34) C dX5_readOne_34 (c4_init κ.2.1 E S2 im2 (y + 1) N k2 (y + 0) (nI key) o ho u hu) (by decide) (Nat.le_of_ble_eq_true rfl) (by omega) (by omega) (fun S_34 im_34 h_34 => ?_)
  obtain ⟨m1, m2, m3, m4, m5, m6, m7, m8, m9, m10⟩ := h_34
  refine z_widen (c1 := 3) (s1 := 200) (by omega) (by omega) ?_
  exact z_aret (pc := 37) C ρ (Or.inr ⟨_, rfl⟩) dX5_readOne_37 (⟨some (y + 1), rfl, rfl, m1, ⟨(m2 y (by omega)).1.trans ((a2 y (by omega)).1.trans k1), (m2 y (by omega)).2.1.trans ((a2 y (by omega)).2.1.trans l1), m3, m4, m5, m6, m7⟩, fun a ha => (a1 a (by omega)).tr ((a2 a (by omega)).tr (m2 a (by omega))), fun k hk => by rw [m8 y (by omega), b2 y (by omega)]; show va_up im1 y _ y k = _; rw [up_s, va_cpy, if_pos (by omega), Nat.zero_add, Nat.sub_zero, b1 _ (by omega)], m9, m10, fun a ha => by rw [m8 a (by omega), b2 a (by omega), up_n _ _ (by omega), b1 a (by omega)]⟩)
