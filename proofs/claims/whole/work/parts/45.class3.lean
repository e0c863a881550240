/-! the class: a street -/
/-- a street at q: its lamps at q + 1, its line at q + 2, its texts at q + 3, what counts at q + 4, lamp i at q + 5 + i -/
def SL (S : Sx) (q : Nat) : Prop := (S.2.1 q = 3 ∧ S.2.2.2 q 0 = some (q + 1) ∧ S.2.2.2 q 2 = some (q + 2) ∧ S.2.2.2 q 9 = some (q + 3) ∧ S.2.2.2 q 11 = some (q + 4)) ∧ (S.2.1 (q + 1) = 11 ∧ S.2.2.1 (q + 1) = 10) ∧ (S.2.1 (q + 2) = 8 ∧ S.2.2.1 (q + 2) = 10) ∧ (S.2.1 (q + 3) = 14 ∧ S.2.2.1 (q + 3) = 14) ∧ (S.2.1 (q + 4) = 8 ∧ S.2.2.1 (q + 4) = 3) ∧ ∀ i, i < 10 → S.2.2.2 (q + 1) i = some (q + 5 + i) ∧ S.2.1 (q + 5 + i) = 0
theorem sl_K {S : Sx} {q : Nat} (h : SL S q) : S.2.1 q = 3 := h.1.1
theorem sl_r0 {S : Sx} {q : Nat} (h : SL S q) : S.2.2.2 q 0 = some (q + 1) := h.1.2.1
theorem sl_r2 {S : Sx} {q : Nat} (h : SL S q) : S.2.2.2 q 2 = some (q + 2) := h.1.2.2.1
theorem sl_r9 {S : Sx} {q : Nat} (h : SL S q) : S.2.2.2 q 9 = some (q + 3) := h.1.2.2.2.1
theorem sl_r11 {S : Sx} {q : Nat} (h : SL S q) : S.2.2.2 q 11 = some (q + 4) := h.1.2.2.2.2
theorem sl_a1 {S : Sx} {q : Nat} (h : SL S q) : S.2.1 (q + 1) = 11 := h.2.1.1
theorem sl_n1 {S : Sx} {q : Nat} (h : SL S q) : S.2.2.1 (q + 1) = 10 := h.2.1.2
theorem sl_a2 {S : Sx} {q : Nat} (h : SL S q) : S.2.1 (q + 2) = 8 := h.2.2.1.1
theorem sl_n2 {S : Sx} {q : Nat} (h : SL S q) : S.2.2.1 (q + 2) = 10 := h.2.2.1.2
theorem sl_a3 {S : Sx} {q : Nat} (h : SL S q) : S.2.1 (q + 3) = 14 := h.2.2.2.1.1
theorem sl_n3 {S : Sx} {q : Nat} (h : SL S q) : S.2.2.1 (q + 3) = 14 := h.2.2.2.1.2
theorem sl_a4 {S : Sx} {q : Nat} (h : SL S q) : S.2.1 (q + 4) = 8 := h.2.2.2.2.1.1
theorem sl_n4 {S : Sx} {q : Nat} (h : SL S q) : S.2.2.1 (q + 4) = 3 := h.2.2.2.2.1.2
theorem sl_e {S : Sx} {q i : Nat} (h : SL S q) (hi : i < 10) : S.2.2.2 (q + 1) i = some (q + 5 + i) := (h.2.2.2.2.2 i hi).1
theorem sl_l {S : Sx} {q i : Nat} (h : SL S q) (hi : i < 10) : S.2.1 (q + 5 + i) = 0 := (h.2.2.2.2.2 i hi).2
set_option maxRecDepth 100000 in
set_option maxHeartbeats 4000000 in
theorem c3_hasLamp (l : Launch) (E : Ex) (S : Sx) (im : Mem) (q : Nat) (hs : SL S q) (x : Int32) (n : Nat) (hn : n ≤ 10) (hc : im q 1 = nI n) : Mt l E yX3_hasLamp cX3_hasLamp 2 (some .boolean) 1 0 0 [.ref q, .int x] S im (pI (pB S im (lmp n x))) := by
  refine Mt.of (by decide +kernel) rfl rfl (Nat.le_of_ble_eq_true rfl) ?_
  intro κ hκ C ρ
  subst hκ
  show V E κ 2 0 0 0 [some (.ref q), some (.int x)] [] S im
  refine z_iconstN (pc := 0) C 0 dX3_hasLamp_0 ?_
  refine z_iload_n (pc := 1) C dX3_hasLamp_1 rfl ?_
  refine z_icmp_gt (pc := 2) C 17 dX3_hasLamp_2 (by decide) (fun c_2 => ?_) (fun c_2 => ?_)
  · 
    refine z_iconstN (pc := 17) C 0 dX3_hasLamp_17 ?_
    exact z_zret (pc := 18) C ρ dX3_hasLamp_18 (by decide) (⟨_, rfl, Or.inr ⟨fun h => i_nlt c_2 h.1, rfl, rfl, rfl⟩⟩)
  · 
    refine z_iload_n (pc := 5) C dX3_hasLamp_5 rfl ?_
    refine z_aload_n (pc := 6) C dX3_hasLamp_6 rfl ?_
    refine gX3_39 (pc := 7) C dX3_hasLamp_7 (sl_K hs) ?_
    refine z_eqi (y := nI n) (hc) ?_
    refine z_icmp_ge (pc := 10) C 17 dX3_hasLamp_10 (by decide) (fun c_10 => ?_) (fun c_10 => ?_)
    · 
      refine z_iconstN (pc := 17) C 0 dX3_hasLamp_17 ?_
      exact z_zret (pc := 18) C ρ dX3_hasLamp_18 (by decide) (⟨_, rfl, Or.inr ⟨fun h => by obtain ⟨k, hk, rfl⟩ := (in_sz (by omega)).mp h; exact nI_ge (a := k) (b := n) hk (by omega) c_10, rfl, rfl, rfl⟩⟩)
    · 
      refine z_iconstN (pc := 13) C 1 dX3_hasLamp_13 ?_
      refine z_goto (pc := 14) C 18 dX3_hasLamp_14 (by decide) ?_
      exact z_zret (pc := 18) C ρ dX3_hasLamp_18 (by decide) (⟨_, rfl, Or.inl ⟨(in_sz (by omega)).mpr (by obtain ⟨k, hk, rfl⟩ := nI_of (x := x) (by intro h; exact c_2 (Int32.lt_iff_toInt_lt.mpr (by rw [nI_toInt (by decide)]; exact Int32.lt_iff_toInt_lt.mp h))); exact ⟨k, by rw [Int32.le_iff_toInt_le, nI_toInt (by omega), nI_toInt hk] at c_10; omega, rfl⟩), rfl, rfl, rfl⟩⟩)
set_option maxRecDepth 100000 in
set_option maxHeartbeats 4000000 in
theorem c3_hasText (l : Launch) (E : Ex) (S : Sx) (im : Mem) (q : Nat) (hs : SL S q) (x : Int32) (n : Nat) (hn : n ≤ 14) (hc : im q 10 = nI n) : Mt l E yX3_hasText cX3_hasText 2 (some .boolean) 1 0 0 [.ref q, .int x] S im (pI (pB S im (lmp n x))) := by
  refine Mt.of (by decide +kernel) rfl rfl (Nat.le_of_ble_eq_true rfl) ?_
  intro κ hκ C ρ
  subst hκ
  show V E κ 2 0 0 0 [some (.ref q), some (.int x)] [] S im
  refine z_iconstN (pc := 0) C 0 dX3_hasText_0 ?_
  refine z_iload_n (pc := 1) C dX3_hasText_1 rfl ?_
  refine z_icmp_gt (pc := 2) C 17 dX3_hasText_2 (by decide) (fun c_2 => ?_) (fun c_2 => ?_)
  · 
    refine z_iconstN (pc := 17) C 0 dX3_hasText_17 ?_
    exact z_zret (pc := 18) C ρ dX3_hasText_18 (by decide) (⟨_, rfl, Or.inr ⟨fun h => i_nlt c_2 h.1, rfl, rfl, rfl⟩⟩)
  · 
    refine z_iload_n (pc := 5) C dX3_hasText_5 rfl ?_
    refine z_aload_n (pc := 6) C dX3_hasText_6 rfl ?_
    refine gX3_58 (pc := 7) C dX3_hasText_7 (sl_K hs) ?_
    refine z_eqi (y := nI n) (hc) ?_
    refine z_icmp_ge (pc := 10) C 17 dX3_hasText_10 (by decide) (fun c_10 => ?_) (fun c_10 => ?_)
    · 
      refine z_iconstN (pc := 17) C 0 dX3_hasText_17 ?_
      exact z_zret (pc := 18) C ρ dX3_hasText_18 (by decide) (⟨_, rfl, Or.inr ⟨fun h => by obtain ⟨k, hk, rfl⟩ := (in_sz (by omega)).mp h; exact nI_ge (a := k) (b := n) hk (by omega) c_10, rfl, rfl, rfl⟩⟩)
    · 
      refine z_iconstN (pc := 13) C 1 dX3_hasText_13 ?_
      refine z_goto (pc := 14) C 18 dX3_hasText_14 (by decide) ?_
      exact z_zret (pc := 18) C ρ dX3_hasText_18 (by decide) (⟨_, rfl, Or.inl ⟨(in_sz (by omega)).mpr (by obtain ⟨k, hk, rfl⟩ := nI_of (x := x) (by intro h; exact c_2 (Int32.lt_iff_toInt_lt.mpr (by rw [nI_toInt (by decide)]; exact Int32.lt_iff_toInt_lt.mp h))); exact ⟨k, by rw [Int32.le_iff_toInt_le, nI_toInt (by omega), nI_toInt hk] at c_10; omega, rfl⟩), rfl, rfl, rfl⟩⟩)
set_option maxRecDepth 100000 in
set_option maxHeartbeats 4000000 in
theorem c3_drawn (l : Launch) (E : Ex) (S : Sx) (im : Mem) (q : Nat) (hs : SL S q)  : Mt l E yX3_drawn cX3_drawn 1 (some .int) 1 0 0 [.ref q] S im (pI (fun v S' im' => s_sh (s_z (im q 8)) = v ∧ S = S' ∧ up2 im q 8 (s_z (im q 8)) = im')) := by
  refine Mt.of (by decide +kernel) rfl rfl (Nat.le_of_ble_eq_true rfl) ?_
  intro κ hκ C ρ
  subst hκ
  show V E κ 1 0 0 0 [some (.ref q)] [] S im
  refine z_aload_n (pc := 0) C dX3_drawn_0 rfl ?_
  refine z_aload_n (pc := 1) C dX3_drawn_1 rfl ?_
  refine gX3_25 (pc := 2) C dX3_drawn_2 (sl_K hs) ?_
  refine z_ldc (pc := 5) C dX3_drawn_5 wk_X3_98 ?_
  refine z_imul (pc := 7) C dX3_drawn_7 ?_
  refine z_sipush (v := nI 12345) (pc := 8) C dX3_drawn_8 (by decide +kernel) ?_
  refine z_iadd (pc := 11) C dX3_drawn_11 ?_
  refine pX3_25 (pc := 12) C dX3_drawn_12 (sl_K hs) ?_
  refine z_aload_n (pc := 15) C dX3_drawn_15 rfl ?_
  refine gX3_25 (pc := 16) C dX3_drawn_16 (sl_K hs) ?_
  refine z_bipushN (pc := 19) C 8 (by decide) dX3_drawn_19 ?_
  refine z_iushr (pc := 21) C dX3_drawn_21 ?_
  exact z_iret (pc := 22) C ρ dX3_drawn_22 (⟨_, rfl, by rw [up2_at, if_pos rfl]; rfl, rfl, rfl⟩)
def s_rkC (law e p : Int32) : Int32 := if law = nI 0 then e else if law = nI 1 then 0 - e else p
set_option maxRecDepth 100000 in
set_option maxHeartbeats 4000000 in
theorem c3_rankOf (l : Launch) (E : Ex) (S : Sx) (im : Mem) (q : Nat) (hs : SL S q) (p : Nat) (hp : S.2.1 p = 0) : Mt l E yX3_rankOf cX3_rankOf 2 (some .int) 1 0 0 [.ref q, .ref p] S im (pI (pE S im (s_rkC (im q 3) (im p 4) (im p 1)))) := by
  refine Mt.of (by decide +kernel) rfl rfl (Nat.le_of_ble_eq_true rfl) ?_
  intro κ hκ C ρ
  subst hκ
  show V E κ 2 0 0 0 [some (.ref q), some (.ref p)] [] S im
  refine z_aload_n (pc := 0) C dX3_rankOf_0 rfl ?_
  refine gX3_46 (pc := 1) C dX3_rankOf_1 (sl_K hs) ?_
  by_cases hs_0 : im q 3 = nI 0
  · 
    refine z_eqi (y := nI 0) hs_0 ?_
    refine z_lookup (off := 28) (pc := 4) C 32 dX3_rankOf_4 (by decide +kernel) (by decide +kernel) (by decide) ?_
    refine z_aload_n (pc := 32) C dX3_rankOf_32 rfl ?_
    refine gX3_79 (pc := 33) C dX3_rankOf_33 hp ?_
    exact z_iret (pc := 36) C ρ dX3_rankOf_36 (⟨_, rfl, by simp only [s_rkC, if_pos hs_0], rfl, rfl⟩)
  by_cases hs_1 : im q 3 = nI 1
  · 
    refine z_eqi (y := nI 1) hs_1 ?_
    refine z_lookup (off := 33) (pc := 4) C 37 dX3_rankOf_4 (by decide +kernel) (by decide +kernel) (by decide) ?_
    refine z_aload_n (pc := 37) C dX3_rankOf_37 rfl ?_
    refine gX3_79 (pc := 38) C dX3_rankOf_38 hp ?_
    refine z_ineg (pc := 41) C dX3_rankOf_41 ?_
    exact z_iret (pc := 42) C ρ dX3_rankOf_42 (⟨_, rfl, by simp only [s_rkC, if_neg hs_0, if_pos hs_1], rfl, rfl⟩)
  refine z_lookup (pc := 4) C 43 dX3_rankOf_4 (by decide +kernel) (off := 39) (by show Op.lookupswitch.offset [(0, 28), (1, 33)] 39 _ = _; rw [lv_osw hs_0 (show (nI 0 : Int32).toInt = 0 by decide), lv_osw hs_1 (show (nI 1 : Int32).toInt = 1 by decide)]; rfl) (by decide) ?_
  refine z_aload_n (pc := 43) C dX3_rankOf_43 rfl ?_
  refine gX3_70 (pc := 44) C dX3_rankOf_44 hp ?_
  exact z_iret (pc := 47) C ρ dX3_rankOf_47 (⟨_, rfl, by simp only [s_rkC, if_neg hs_0, if_neg hs_1], rfl, rfl⟩)
