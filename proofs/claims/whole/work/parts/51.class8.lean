/-! the class: a sheet -/
/-- a sheet at q, its places at q + 1 -/
def TL (S : Sx) (q : Nat) : Prop := S.2.1 q = 1 ∧ S.2.2.2 q 2 = some (q + 1) ∧ S.2.1 (q + 1) = 8 ∧ S.2.2.1 (q + 1) = 24
set_option maxRecDepth 100000 in
set_option maxHeartbeats 4000000 in
theorem c1_isMissing (l : Launch) (E : Ex) (S : Sx) (im : Mem) (q : Nat) (hs : TL S q)  : Mt l E yX1_isMissing cX1_isMissing 1 (some .boolean) 1 0 0 [.ref q] S im (pI (pB S im (im q 0 = -1))) := by
  refine Mt.of (by decide +kernel) rfl rfl (Nat.le_of_ble_eq_true rfl) ?_
  intro κ hκ C ρ
  subst hκ
  show V E κ 1 0 0 0 [some (.ref q)] [] S im
  refine z_aload_n (pc := 0) C dX1_isMissing_0 rfl ?_
  refine gX1_11 (pc := 1) C dX1_isMissing_1 hs.1 ?_
  refine z_iconst (v := -1) (pc := 4) C dX1_isMissing_4 (by decide) ?_
  refine z_icmp_ne (pc := 5) C 12 dX1_isMissing_5 (by decide) (fun c_5 => ?_) (fun c_5 => ?_)
  · 
    refine z_iconstN (pc := 12) C 0 dX1_isMissing_12 ?_
    exact z_zret (pc := 13) C ρ dX1_isMissing_13 (by decide) (⟨_, rfl, Or.inr ⟨c_5, rfl, rfl, rfl⟩⟩)
  · 
    refine z_iconstN (pc := 8) C 1 dX1_isMissing_8 ?_
    refine z_goto (pc := 9) C 13 dX1_isMissing_9 (by decide) ?_
    exact z_zret (pc := 13) C ρ dX1_isMissing_13 (by decide) (⟨_, rfl, Or.inl ⟨c_5, rfl, rfl, rfl⟩⟩)
set_option maxRecDepth 100000 in
set_option maxHeartbeats 4000000 in
theorem c1_hasPlace (l : Launch) (E : Ex) (S : Sx) (im : Mem) (q : Nat) (hs : TL S q) (z : Nat) (hz : z ≤ 24) (hc : im q 1 = nI z) (x : Int32) : Mt l E yX1_hasPlace cX1_hasPlace 2 (some .boolean) 1 0 0 [.ref q, .int x] S im (pI (pB S im (lmp z x))) := by
  refine Mt.of (by decide +kernel) rfl rfl (Nat.le_of_ble_eq_true rfl) ?_
  intro κ hκ C ρ
  subst hκ
  show V E κ 2 0 0 0 [some (.ref q), some (.int x)] [] S im
  refine z_iconstN (pc := 0) C 0 dX1_hasPlace_0 ?_
  refine z_iload_n (pc := 1) C dX1_hasPlace_1 rfl ?_
  refine z_icmp_gt (pc := 2) C 17 dX1_hasPlace_2 (by decide) (fun c_2 => ?_) (fun c_2 => ?_)
  · 
    refine z_iconstN (pc := 17) C 0 dX1_hasPlace_17 ?_
    exact z_zret (pc := 18) C ρ dX1_hasPlace_18 (by decide) (⟨_, rfl, Or.inr ⟨fun h => i_nlt c_2 h.1, rfl, rfl, rfl⟩⟩)
  · 
    refine z_iload_n (pc := 5) C dX1_hasPlace_5 rfl ?_
    refine z_aload_n (pc := 6) C dX1_hasPlace_6 rfl ?_
    refine gX1_28 (pc := 7) C dX1_hasPlace_7 hs.1 ?_
    refine z_eqi (y := nI z) (hc) ?_
    refine z_icmp_ge (pc := 10) C 17 dX1_hasPlace_10 (by decide) (fun c_10 => ?_) (fun c_10 => ?_)
    · 
      refine z_iconstN (pc := 17) C 0 dX1_hasPlace_17 ?_
      exact z_zret (pc := 18) C ρ dX1_hasPlace_18 (by decide) (⟨_, rfl, Or.inr ⟨fun h => by obtain ⟨k, hk, rfl⟩ := (in_sz (by omega)).mp h; exact nI_ge (a := k) (b := z) hk (by omega) c_10, rfl, rfl, rfl⟩⟩)
    · 
      refine z_iconstN (pc := 13) C 1 dX1_hasPlace_13 ?_
      refine z_goto (pc := 14) C 18 dX1_hasPlace_14 (by decide) ?_
      exact z_zret (pc := 18) C ρ dX1_hasPlace_18 (by decide) (⟨_, rfl, Or.inl ⟨(in_sz (by omega)).mpr (by obtain ⟨k, hk, rfl⟩ := nI_of (x := x) (by intro h; exact c_2 (Int32.lt_iff_toInt_lt.mpr (by rw [nI_toInt (by decide)]; exact Int32.lt_iff_toInt_lt.mp h))); exact ⟨k, by rw [Int32.le_iff_toInt_le, nI_toInt (by omega), nI_toInt hk] at c_10; omega, rfl⟩), rfl, rfl, rfl⟩⟩)
set_option maxRecDepth 100000 in
set_option maxHeartbeats 4000000 in
theorem c1_hasNumber (l : Launch) (E : Ex) (S : Sx) (im : Mem) (q : Nat) (hs : TL S q) (z : Nat) (hz : z ≤ 24) (hc : im q 1 = nI z) (x : Int32) : Mt l E yX1_hasNumber cX1_hasNumber 2 (some .boolean) 2 0 0 [.ref q, .int x] S im (pI (pB S im (lmp z x ∧ ¬ im (q + 1) x.toNatClampNeg = -1000000005))) := by
  refine Mt.of (by decide +kernel) rfl rfl (Nat.le_of_ble_eq_true rfl) ?_
  intro κ hκ C ρ
  subst hκ
  show V E κ 2 0 0 0 [some (.ref q), some (.int x)] [] S im
  refine z_aload_n (pc := 0) C dX1_hasNumber_0 rfl ?_
  refine z_iload_n (pc := 1) C dX1_hasNumber_1 rfl ?_
  refine kX1_37 (pc := 2) C dX1_hasNumber_2 (c1_hasPlace κ.2.1 E S im q hs z hz hc x) hs.1 (by decide) (Nat.le_of_ble_eq_true rfl) (Nat.le_refl _) (Nat.le_refl _) (fun v_2 S_2 im_2 h_2 => ?_)
  rcases h_2 with ⟨hb_2, rfl, rfl, rfl⟩ | ⟨hb_2, rfl, rfl, rfl⟩
  · 
    obtain ⟨k, hk, rfl⟩ := (in_sz (by omega)).mp hb_2
    have hcx : (nI k).toNatClampNeg = k := nI_clamp (by omega)
    refine z_if_eqF (pc := 5) C 23 dX1_hasNumber_5 (by decide) (by decide) ?_
    refine z_aload_n (pc := 8) C dX1_hasNumber_8 rfl ?_
    refine gX1_15 (pc := 9) C dX1_hasNumber_9 hs.1 hs.2.1 ?_
    refine z_iload_n (pc := 12) C dX1_hasNumber_12 rfl ?_
    refine z_iald (pc := 13) C dX1_hasNumber_13 hs.2.2.1 hs.2.2.2 (by omega) (by decide) ?_
    refine z_ldc (pc := 14) C dX1_hasNumber_14 wk_X1_41 ?_
    refine z_icmp_eq (pc := 16) C 23 dX1_hasNumber_16 (by decide) (fun c_16 => ?_) (fun c_16 => ?_)
    · 
      refine z_iconstN (pc := 23) C 0 dX1_hasNumber_23 ?_
      exact z_zret (pc := 24) C ρ dX1_hasNumber_24 (by decide) (⟨_, rfl, Or.inr ⟨fun h => h.2 (by rw [hcx]; exact c_16), rfl, rfl, rfl⟩⟩)
    · 
      refine z_iconstN (pc := 19) C 1 dX1_hasNumber_19 ?_
      refine z_goto (pc := 20) C 24 dX1_hasNumber_20 (by decide) ?_
      exact z_zret (pc := 24) C ρ dX1_hasNumber_24 (by decide) (⟨_, rfl, Or.inl ⟨⟨hb_2, by rw [hcx]; exact c_16⟩, rfl, rfl, rfl⟩⟩)
  · 
    refine z_if_eqT (pc := 5) C 23 dX1_hasNumber_5 (by decide) (by decide) ?_
    refine z_iconstN (pc := 23) C 0 dX1_hasNumber_23 ?_
    exact z_zret (pc := 24) C ρ dX1_hasNumber_24 (by decide) (⟨_, rfl, Or.inr ⟨fun h => hb_2 h.1, rfl, rfl, rfl⟩⟩)
