/-! the class: what a street holds -/
/-- the street at q holds the numbers f -/
def SR (im : Mem) (q : Nat) (f : Nat → Int32) (n : Nat) : Prop := (n ≤ 10 ∧ f 1 = nI n ∧ im q 1 = nI n) ∧ (im q 8 = f 0 ∧ im q 7 = f 2 ∧ im q 3 = f 3 ∧ im q 4 = f 4 ∧ im q 5 = f 5 ∧ im q 6 = f 6 ∧ im q 10 = f 7) ∧ ∀ l, l < n → ∀ k, k < 7 → im (q + 5 + l) k = f (8 + 7 * l + k)
theorem s_part_w {g : Nat → Int32} {w : Nat} (h : w < 7) : s_part g (nI w) = g w := by
  rcases (show w = 0 ∨ w = 1 ∨ w = 2 ∨ w = 3 ∨ w = 4 ∨ w = 5 ∨ w = 6 by omega) with rfl | rfl | rfl | rfl | rfl | rfl | rfl <;> rfl
set_option maxRecDepth 100000 in
set_option maxHeartbeats 4000000 in
theorem c3_sumOf (l : Launch) (E : Ex) (S : Sx) (im : Mem) (q : Nat) (hs : SL S q) (f : Nat → Int32) (n : Nat) (hr : SR im q f n) (w : Nat) (hw : w < 7) : Mt l E yX3_sumOf cX3_sumOf 4 (some .int) 2 0 0 [.ref q, .int (nI w)] S im (pI (pE S im (s_sum f w n))) := by
  refine Mt.of (by decide +kernel) rfl rfl (Nat.le_of_ble_eq_true rfl) ?_
  intro κ hκ C ρ
  subst hκ
  show V E κ 4 0 0 0 [some (.ref q), some (.int (nI w)), none, none] [] S im
  have hn10 := hr.1.1
  have loop : ∀ (r i : Nat), i + r = n → V E κ 4 0 0 4 [some (.ref q), some (.int (nI w)), some (.int (s_sum f w i)), some (.int (nI i))] [] S im := by
    intro r
    induction r with
    | zero =>
      intro i hi
      refine z_iload_n (pc := 4) C dX3_sumOf_4 rfl ?_
      refine z_aload_n (pc := 5) C dX3_sumOf_5 rfl ?_
      refine gX3_39 (pc := 6) C dX3_sumOf_6 (sl_K hs) ?_
      refine z_eqi (y := nI n) (hr.1.2.2) ?_
      refine z_icmp_geT (pc := 9) C 31 dX3_sumOf_9 (by decide) (nI_le (by omega) (by omega)) ?_
      refine z_iload_n (pc := 31) C dX3_sumOf_31 rfl ?_
      exact z_iret (pc := 32) C ρ dX3_sumOf_32 (⟨_, rfl, by rw [show n = i by omega], rfl, rfl⟩)
    | succ r ih =>
      intro i hi
      refine z_iload_n (pc := 4) C dX3_sumOf_4 rfl ?_
      refine z_aload_n (pc := 5) C dX3_sumOf_5 rfl ?_
      refine gX3_39 (pc := 6) C dX3_sumOf_6 (sl_K hs) ?_
      refine z_eqi (y := nI n) (hr.1.2.2) ?_
      refine z_icmp_geF (pc := 9) C 31 dX3_sumOf_9 (by decide) (nI_ge (by omega) (by omega)) ?_
      refine z_iload_n (pc := 12) C dX3_sumOf_12 rfl ?_
      refine z_aload_n (pc := 13) C dX3_sumOf_13 rfl ?_
      refine gX3_11 (pc := 14) C dX3_sumOf_14 (sl_K hs) (sl_r0 hs) ?_
      refine z_iload_n (pc := 17) C dX3_sumOf_17 rfl ?_
      refine z_aald (pc := 18) C dX3_sumOf_18 (sl_a1 hs) (by decide) (sl_n1 hs) (by omega) (by decide) (sl_e hs (i := i) (by omega)) ?_
      refine z_iload_n (pc := 19) C dX3_sumOf_19 rfl ?_
      refine kX3_155 (pc := 20) C dX3_sumOf_20 (c0_part κ.2.1 E S im (q + 5 + i) (sl_l hs (by omega)) (nI w)) (sl_l hs (i := i) (by omega)) (by decide) (Nat.le_of_ble_eq_true rfl) (Nat.le_refl _) (Nat.le_refl _) (fun v_20 S_20 im_20 h_20 => ?_)
      obtain ⟨rfl, rfl, rfl⟩ := h_20
      refine z_eqi (y := f (8 + 7 * i + w)) (by rw [s_part_w hw]; exact hr.2.2 i (by omega) w hw) ?_
      refine z_iadd (pc := 23) C dX3_sumOf_23 ?_
      refine z_istore_n (pc := 24) C dX3_sumOf_24 (by decide) rfl ?_
      refine z_iincN (pc := 25) C 1 dX3_sumOf_25 rfl (by decide) rfl ?_
      refine z_goto (pc := 28) C 4 dX3_sumOf_28 (by decide) ?_
      exact ih (i + 1) (by omega)
  refine z_iconstN (pc := 0) C 0 dX3_sumOf_0 ?_
  refine z_istore_n (pc := 1) C dX3_sumOf_1 (by decide) rfl ?_
  refine z_iconstN (pc := 2) C 0 dX3_sumOf_2 ?_
  refine z_istore_n (pc := 3) C dX3_sumOf_3 (by decide) rfl ?_
  exact loop n 0 (by omega)
theorem SR_add {im im' : Mem} {q n : Nat} {f : Nat → Int32} {k p o u : Int32} (hr : SR im q f n) (hn : n < 10) (h1 : im' q 1 = nI (n + 1)) (hq : ∀ j, j ≠ 1 → im' q j = im q j) (hl : ∀ l, l < n → im' (q + 5 + l) = im (q + 5 + l)) (h0 : im' (q + 5 + n) 0 = k) (hp : im' (q + 5 + n) 1 = p) (ho : im' (q + 5 + n) 2 = o) (hu : im' (q + 5 + n) 3 = u) (he : im' (q + 5 + n) 4 = nI n) (hi : im' (q + 5 + n) 5 = 0) (hd : im' (q + 5 + n) 6 = 0) : SR im' q (s_comes f n k p o u) (n + 1) := by
  obtain ⟨⟨a1, a2, a3⟩, ⟨b0, b2, b3, b4, b5, b6, b7⟩, c⟩ := hr
  have hs : ∀ j, j < 8 → j ≠ 1 → s_comes f n k p o u j = f j := fun j h7 h => by
    unfold s_comes
    rw [upd_n _ _ h, upd_n _ _ (by omega), upd_n _ _ (by omega), upd_n _ _ (by omega), upd_n _ _ (by omega), upd_n _ _ (by omega), upd_n _ _ (by omega), upd_n _ _ (by omega)]
  refine ⟨⟨by omega, ?_, h1⟩, ⟨?_, ?_, ?_, ?_, ?_, ?_, ?_⟩, fun l hl' j hj => ?_⟩
  · unfold s_comes; rw [upd_s]
  · rw [hq _ (by decide), hs _ (by decide) (by decide)]; exact b0
  · rw [hq _ (by decide), hs _ (by decide) (by decide)]; exact b2
  · rw [hq _ (by decide), hs _ (by decide) (by decide)]; exact b3
  · rw [hq _ (by decide), hs _ (by decide) (by decide)]; exact b4
  · rw [hq _ (by decide), hs _ (by decide) (by decide)]; exact b5
  · rw [hq _ (by decide), hs _ (by decide) (by decide)]; exact b6
  · rw [hq _ (by decide), hs _ (by decide) (by decide)]; exact b7
  · unfold s_comes
    rw [upd_n _ _ (by omega)]
    by_cases e : l = n
    · subst e
      rcases (show j = 0 ∨ j = 1 ∨ j = 2 ∨ j = 3 ∨ j = 4 ∨ j = 5 ∨ j = 6 by omega) with rfl | rfl | rfl | rfl | rfl | rfl | rfl
      · rw [upd_n _ _ (by omega), upd_n _ _ (by omega), upd_n _ _ (by omega), upd_n _ _ (by omega), upd_n _ _ (by omega), upd_n _ _ (by omega)]; show im' (q + 5 + l) 0 = upd f (8 + 7 * l) k (8 + 7 * l); rw [upd_s]; exact h0
      · rw [upd_n _ _ (by omega), upd_n _ _ (by omega), upd_n _ _ (by omega), upd_n _ _ (by omega), upd_n _ _ (by omega), upd_s]; exact hp
      · rw [upd_n _ _ (by omega), upd_n _ _ (by omega), upd_n _ _ (by omega), upd_n _ _ (by omega), upd_s]; exact ho
      · rw [upd_n _ _ (by omega), upd_n _ _ (by omega), upd_n _ _ (by omega), upd_s]; exact hu
      · rw [upd_n _ _ (by omega), upd_n _ _ (by omega), upd_s]; exact he
      · rw [upd_n _ _ (by omega), upd_s]; exact hi
      · rw [upd_s]; exact hd
    · rw [upd_n _ _ (by omega), upd_n _ _ (by omega), upd_n _ _ (by omega), upd_n _ _ (by omega), upd_n _ _ (by omega), upd_n _ _ (by omega), upd_n _ _ (by omega), hl l (by omega)]
      exact c l (by omega) j hj
set_option maxRecDepth 100000 in
set_option maxHeartbeats 4000000 in
theorem c3_addLamp (l : Launch) (E : Ex) (S : Sx) (im : Mem) (q : Nat) (hs : SL S q) (f : Nat → Int32) (n : Nat) (hr : SR im q f n) (hn : n < 10) (k p o u : Int32) : Mt l E yX3_addLamp cX3_addLamp 6 none 1 0 0 [.ref q, .int k, .int p, .int o, .int u] S im (pV (fun S' im' => S = S' ∧ SR im' q (s_comes f n k p o u) (n + 1) ∧ (∀ j, j ≠ 1 → im' q j = im q j) ∧ ∀ c, c ≠ q → c ≠ q + 5 + n → im' c = im c)) := by
  refine Mt.of (by decide +kernel) rfl rfl (Nat.le_of_ble_eq_true rfl) ?_
  intro κ hκ C ρ
  subst hκ
  show V E κ 6 0 0 0 [some (.ref q), some (.int k), some (.int p), some (.int o), some (.int u), none] [] S im
  refine z_aload_n (pc := 0) C dX3_addLamp_0 rfl ?_
  refine gX3_39 (pc := 1) C dX3_addLamp_1 (sl_K hs) ?_
  refine z_eqi (y := nI n) (hr.1.2.2) ?_
  refine z_bipushN (pc := 4) C 10 (by decide) dX3_addLamp_4 ?_
  refine z_icmp_ltT (pc := 6) C 10 dX3_addLamp_6 (by decide) (nI_lt (by omega) (by omega)) ?_
  refine z_aload_n (pc := 10) C dX3_addLamp_10 rfl ?_
  refine gX3_11 (pc := 11) C dX3_addLamp_11 (sl_K hs) (sl_r0 hs) ?_
  refine z_aload_n (pc := 14) C dX3_addLamp_14 rfl ?_
  refine gX3_39 (pc := 15) C dX3_addLamp_15 (sl_K hs) ?_
  refine z_eqi (y := nI n) (hr.1.2.2) ?_
  refine z_aald (pc := 18) C dX3_addLamp_18 (sl_a1 hs) (by decide) (sl_n1 hs) (by omega) (by decide) (sl_e hs (i := n) (by omega)) ?_
  refine z_astore (pc := 19) C dX3_addLamp_19 (by decide) rfl ?_
  refine z_aload (pc := 21) C dX3_addLamp_21 rfl ?_
  refine z_iload_n (pc := 23) C dX3_addLamp_23 rfl ?_
  refine pX3_67 (pc := 24) C dX3_addLamp_24 (sl_l hs (i := n) (by omega)) ?_
  refine z_aload (pc := 27) C dX3_addLamp_27 rfl ?_
  refine z_iload_n (pc := 29) C dX3_addLamp_29 rfl ?_
  refine pX3_70 (pc := 30) C dX3_addLamp_30 (sl_l hs (i := n) (by omega)) ?_
  refine z_aload (pc := 33) C dX3_addLamp_33 rfl ?_
  refine z_iload_n (pc := 35) C dX3_addLamp_35 rfl ?_
  refine pX3_73 (pc := 36) C dX3_addLamp_36 (sl_l hs (i := n) (by omega)) ?_
  refine z_aload (pc := 39) C dX3_addLamp_39 rfl ?_
  refine z_iload (pc := 41) C dX3_addLamp_41 rfl ?_
  refine pX3_76 (pc := 43) C dX3_addLamp_43 (sl_l hs (i := n) (by omega)) ?_
  refine z_aload (pc := 46) C dX3_addLamp_46 rfl ?_
  refine z_aload_n (pc := 48) C dX3_addLamp_48 rfl ?_
  refine gX3_39 (pc := 49) C dX3_addLamp_49 (sl_K hs) ?_
  refine z_eqi (y := nI n) (by rw [up2_n _ _ _ (by omega), up2_n _ _ _ (by omega), up2_n _ _ _ (by omega), up2_n _ _ _ (by omega)]; exact hr.1.2.2) ?_
  refine pX3_79 (pc := 52) C dX3_addLamp_52 (sl_l hs (i := n) (by omega)) ?_
  refine z_aload (pc := 55) C dX3_addLamp_55 rfl ?_
  refine z_iconstN (pc := 57) C 0 dX3_addLamp_57 ?_
  refine pX3_82 (pc := 58) C dX3_addLamp_58 (sl_l hs (i := n) (by omega)) ?_
  refine z_aload (pc := 61) C dX3_addLamp_61 rfl ?_
  refine z_iconstN (pc := 63) C 0 dX3_addLamp_63 ?_
  refine pX3_85 (pc := 64) C dX3_addLamp_64 (sl_l hs (i := n) (by omega)) ?_
  refine z_aload_n (pc := 67) C dX3_addLamp_67 rfl ?_
  refine z_dup (pc := 68) C dX3_addLamp_68 rfl ?_
  refine gX3_39 (pc := 69) C dX3_addLamp_69 (sl_K hs) ?_
  refine z_eqi (y := nI n) (by rw [up2_n _ _ _ (by omega), up2_n _ _ _ (by omega), up2_n _ _ _ (by omega), up2_n _ _ _ (by omega), up2_n _ _ _ (by omega), up2_n _ _ _ (by omega), up2_n _ _ _ (by omega)]; exact hr.1.2.2) ?_
  refine z_iconstN (pc := 72) C 1 dX3_addLamp_72 ?_
  refine z_iaddN (pc := 73) C dX3_addLamp_73 ?_
  refine pX3_39 (pc := 74) C dX3_addLamp_74 (sl_K hs) ?_
  exact z_vret (pc := 77) C ρ dX3_addLamp_77 (⟨rfl, rfl, SR_add hr hn (by rw [up2_at, if_pos rfl]) (fun j hj => by rw [up2_at, if_neg hj]; simp only [up2_n _ _ _ (show q ≠ q + 5 + n by omega)]) (fun l hl => by simp only [up2_n _ _ _ (show q + 5 + l ≠ q by omega), up2_n _ _ _ (show q + 5 + l ≠ q + 5 + n by omega)]) (by simp [up2_at, up2_n _ _ _ (show q + 5 + n ≠ q by omega), up2_n _ _ _ (show q ≠ q + 5 + n by omega)]) (by simp [up2_at, up2_n _ _ _ (show q + 5 + n ≠ q by omega), up2_n _ _ _ (show q ≠ q + 5 + n by omega)]) (by simp [up2_at, up2_n _ _ _ (show q + 5 + n ≠ q by omega), up2_n _ _ _ (show q ≠ q + 5 + n by omega)]) (by simp [up2_at, up2_n _ _ _ (show q + 5 + n ≠ q by omega), up2_n _ _ _ (show q ≠ q + 5 + n by omega)]) (by simp [up2_at, up2_n _ _ _ (show q + 5 + n ≠ q by omega), up2_n _ _ _ (show q ≠ q + 5 + n by omega)]) (by simp [up2_at, up2_n _ _ _ (show q + 5 + n ≠ q by omega), up2_n _ _ _ (show q ≠ q + 5 + n by omega)]; rfl) (by simp [up2_at, up2_n _ _ _ (show q + 5 + n ≠ q by omega), up2_n _ _ _ (show q ≠ q + 5 + n by omega)]; rfl), fun j hj => by rw [up2_at, if_neg hj]; simp only [up2_n _ _ _ (show q ≠ q + 5 + n by omega)], fun c h1 h2 => by simp only [up2_n _ _ _ h1, up2_n _ _ _ h2]⟩)
