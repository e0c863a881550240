/-! the reference: sheets -/
abbrev isSh (x : Int32) : Prop := nI 0 ≤ x ∧ x ≤ nI 3
abbrev isSl (x : Int32) : Prop := nI 0 ≤ x ∧ x ≤ nI 4
theorem i_ge {x : Int32} (h : ¬ x < 0) : 0 ≤ x := by rw [Int32.le_iff_toInt_le]; rw [Int32.lt_iff_toInt_lt] at h; omega
theorem i_nge {x : Int32} (h : x < 0) : ¬ 0 ≤ x := by rw [Int32.le_iff_toInt_le]; rw [Int32.lt_iff_toInt_lt] at h; omega
theorem in_sz {n : Nat} (hn : n ≤ 1000) {x : Int32} : (nI 0 ≤ x ∧ x ≤ nI n - nI 1) ↔ ∃ k, k < n ∧ x = nI k := by
  cases n with
  | zero =>
    constructor
    · rintro ⟨h1, h2⟩
      exfalso
      have h1' := Int32.le_iff_toInt_le.mp h1
      have h2' := Int32.le_iff_toInt_le.mp h2
      rw [show (nI 0 - nI 1).toInt = -1 by decide +kernel] at h2'
      rw [show (nI 0).toInt = 0 by decide +kernel] at h1'
      omega
    · rintro ⟨k, h, -⟩
      omega
  | succ m =>
    rw [pk_sub (by omega : 1 ≤ m + 1), rng (by decide) (by omega)]
    constructor
    · rintro ⟨k, -, h, e⟩
      exact ⟨k, by omega, e⟩
    · rintro ⟨k, h, e⟩
      exact ⟨k, by omega, by omega, e⟩
/-- an answer, and what is behind it -/
def pQ (S : Sx) (r : Int32) (G : Mem → Prop) : Int32 → Sx → Mem → Prop := fun v S' im' => r = v ∧ S = S' ∧ G im'
/-- what holds of the sheets -/
def ShOk (M : Nat) (im : Mem) : Prop := ∀ s, s < 4 → (∃ z, z ≤ 24 ∧ im (M + 18) s = nI z) ∧ (im (M + 17) s = -1 ∨ im (M + 17) s = 0 ∨ im (M + 17) s = 1)
set_option maxRecDepth 100000 in
set_option maxHeartbeats 4000000 in
theorem m7_isSheet (l : Launch) (E : Ex) (S : Sx) (im : Mem) (x : Int32) : Mt l E yX7_isSheet cX7_isSheet 1 (some .boolean) 2 0 0 [.int x] S im (pI (pB S im (isSh x))) := by
  refine Mt.of (by decide +kernel) rfl rfl (Nat.le_of_ble_eq_true rfl) ?_
  intro κ hκ C ρ
  subst hκ
  show V E κ 1 0 0 0 [some (.int x)] [] S im
  refine z_iload_n (pc := 0) C dX7_isSheet_0 rfl ?_
  refine z_iconstN (pc := 1) C 0 dX7_isSheet_1 ?_
  refine z_iconstN (pc := 2) C 3 dX7_isSheet_2 ?_
  refine kX7_92 (pc := 3) C dX7_isSheet_3 (m7_in κ.2.1 E S im (x) (nI 0) (nI 3)) (by decide) (Nat.le_of_ble_eq_true rfl) (Nat.le_refl _) (Nat.le_refl _) (fun v_3 S_3 im_3 h_3 => ?_)
  rcases h_3 with ⟨hb_3, rfl, rfl, rfl⟩ | ⟨hb_3, rfl, rfl, rfl⟩
  · 
    exact z_zret (pc := 6) C ρ dX7_isSheet_6 (by decide) (⟨_, rfl, by first | exact Or.inl ⟨hb_3, rfl, rfl, rfl⟩ | exact Or.inr ⟨hb_3, rfl, rfl, rfl⟩⟩)
  · 
    exact z_zret (pc := 6) C ρ dX7_isSheet_6 (by decide) (⟨_, rfl, by first | exact Or.inl ⟨hb_3, rfl, rfl, rfl⟩ | exact Or.inr ⟨hb_3, rfl, rfl, rfl⟩⟩)
set_option maxRecDepth 100000 in
set_option maxHeartbeats 4000000 in
theorem m7_isSlot (l : Launch) (E : Ex) (S : Sx) (im : Mem) (x : Int32) : Mt l E yX7_isSlot cX7_isSlot 1 (some .boolean) 2 0 0 [.int x] S im (pI (pB S im (isSl x))) := by
  refine Mt.of (by decide +kernel) rfl rfl (Nat.le_of_ble_eq_true rfl) ?_
  intro κ hκ C ρ
  subst hκ
  show V E κ 1 0 0 0 [some (.int x)] [] S im
  refine z_iload_n (pc := 0) C dX7_isSlot_0 rfl ?_
  refine z_iconstN (pc := 1) C 0 dX7_isSlot_1 ?_
  refine z_iconstN (pc := 2) C 4 dX7_isSlot_2 ?_
  refine kX7_92 (pc := 3) C dX7_isSlot_3 (m7_in κ.2.1 E S im (x) (nI 0) (nI 4)) (by decide) (Nat.le_of_ble_eq_true rfl) (Nat.le_refl _) (Nat.le_refl _) (fun v_3 S_3 im_3 h_3 => ?_)
  rcases h_3 with ⟨hb_3, rfl, rfl, rfl⟩ | ⟨hb_3, rfl, rfl, rfl⟩
  · 
    exact z_zret (pc := 6) C ρ dX7_isSlot_6 (by decide) (⟨_, rfl, by first | exact Or.inl ⟨hb_3, rfl, rfl, rfl⟩ | exact Or.inr ⟨hb_3, rfl, rfl, rfl⟩⟩)
  · 
    exact z_zret (pc := 6) C ρ dX7_isSlot_6 (by decide) (⟨_, rfl, by first | exact Or.inl ⟨hb_3, rfl, rfl, rfl⟩ | exact Or.inr ⟨hb_3, rfl, rfl, rfl⟩⟩)
def r_sheet (x k w : Int32) : Int32 := if isSh x then (if -1 ≤ k ∧ k ≤ nI 1 then (if k < 0 then nI 0 else if w ≤ nI 24 then (if 0 ≤ w then w else -1000000014) else -1000000001) else -1000000001) else -1000000001
def shC (M : Nat) (im : Mem) (s : Nat) (k z : Int32) (im' : Mem) : Prop := im' (M + 17) = upd (im (M + 17)) s k ∧ im' (M + 18) = upd (im (M + 18)) s z ∧ (∀ j, im' (M + 19) j = if 24 * s ≤ j ∧ j < 24 * s + 24 then 0 else im (M + 19) j) ∧ ∀ a, a ≠ M + 17 → a ≠ M + 18 → a ≠ M + 19 → im' a = im a
def g_sheet (M : Nat) (im : Mem) (x k w : Int32) (im' : Mem) : Prop := if isSh x then (if -1 ≤ k ∧ k ≤ nI 1 then (if k < 0 then shC M im x.toNatClampNeg k (r_sheet x k w) im' else if w ≤ nI 24 then (if 0 ≤ w then shC M im x.toNatClampNeg k (r_sheet x k w) im' else im' = im) else im' = im) else im' = im) else im' = im
set_option maxRecDepth 100000 in
set_option maxHeartbeats 4000000 in
theorem m7_sheet (l : Launch) (E : Ex) (S : Sx) (im : Mem) (M : Nat) (hM : ML S M) (x k w : Int32) : Mt l E yX7_sheet cX7_sheet 5 (some .int) 3 0 0 [.ref M, .int x, .int k, .int w] S im (pI (pQ S (r_sheet x k w) (g_sheet M im x k w))) := by
  refine Mt.of (by decide +kernel) rfl rfl (Nat.le_of_ble_eq_true rfl) ?_
  intro κ hκ C ρ
  subst hκ
  show V E κ 5 0 0 0 [some (.ref M), some (.int x), some (.int k), some (.int w), none] [] S im
  refine z_iload_n (pc := 0) C dX7_sheet_0 rfl ?_
  refine kX7_195 (pc := 1) C dX7_sheet_1 (m7_isSheet κ.2.1 E S im x) (by decide) (Nat.le_of_ble_eq_true rfl) (Nat.le_refl _) (Nat.le_refl _) (fun v_1 S_1 im_1 h_1 => ?_)
  rcases h_1 with ⟨hb_1, rfl, rfl, rfl⟩ | ⟨hb_1, rfl, rfl, rfl⟩
  · 
    obtain ⟨x0, hx00, hx0, rfl⟩ := (rng (by decide) (by decide)).mp hb_1
    have hcx0 : (nI x0).toNatClampNeg = x0 := nI_clamp (by omega)
    have loop : ∀ (im1 : Mem), r_sheet (nI x0) k w = im1 (M + 18) x0 → im1 (M + 17) = upd (im (M + 17)) x0 k → im1 (M + 18) = upd (im (M + 18)) x0 (r_sheet (nI x0) k w) → im1 (M + 19) = im (M + 19) → (∀ a, a ≠ M + 17 → a ≠ M + 18 → im1 a = im a) → (∀ im' : Mem, shC M im x0 k (r_sheet (nI x0) k w) im' → g_sheet M im (nI x0) k w im') → ∀ (r q : Nat) (im' : Mem), q + r = 24 → (∀ j, im' (M + 19) j = if 24 * x0 ≤ j ∧ j < 24 * x0 + q then 0 else im (M + 19) j) → (∀ a, a ≠ M + 19 → im' a = im1 a) → V E κ 5 0 0 66 [some (.ref M), some (.int (nI x0)), some (.int k), some (.int w), some (.int (nI q))] [] S im' := by
      intro im1 h0 h17 h18 h19 hel hG r
      induction r with
      | zero =>
        intro q im' hq hc ho
        refine z_iload (pc := 66) C dX7_sheet_66 rfl ?_
        refine z_bipushN (pc := 68) C 24 (by decide) dX7_sheet_68 ?_
        refine z_icmp_geT (pc := 70) C 92 dX7_sheet_70 (by decide) (nI_le (by omega) (by omega)) ?_
        refine z_aload_n (pc := 92) C dX7_sheet_92 rfl ?_
        refine gX7_67 (pc := 93) C dX7_sheet_93 (ml_K hM) (ml_r29 hM) ?_
        refine z_iload_n (pc := 96) C dX7_sheet_96 rfl ?_
        refine z_iald (pc := 97) C dX7_sheet_97 (ml_a18 hM) (ml_n18 hM) (by omega) (by decide) ?_
        refine z_eqi (y := im1 (M + 18) x0) (by rw [ho _ (by omega)]) ?_
        exact z_iret (pc := 98) C ρ dX7_sheet_98 (⟨_, rfl, h0, rfl, hG _ ⟨by rw [ho _ (by omega)]; exact h17, by rw [ho _ (by omega)]; exact h18, fun j => by rw [hc j, show q = 24 by omega], fun a q1 q2 q3 => by rw [ho a q3]; exact hel a q1 q2⟩⟩)
      | succ r ih =>
        intro q im' hq hc ho
        refine z_iload (pc := 66) C dX7_sheet_66 rfl ?_
        refine z_bipushN (pc := 68) C 24 (by decide) dX7_sheet_68 ?_
        refine z_icmp_geF (pc := 70) C 92 dX7_sheet_70 (by decide) (nI_ge (by omega) (by omega)) ?_
        refine z_aload_n (pc := 73) C dX7_sheet_73 rfl ?_
        refine gX7_70 (pc := 74) C dX7_sheet_74 (ml_K hM) (ml_r30 hM) ?_
        refine z_bipushN (pc := 77) C 24 (by decide) dX7_sheet_77 ?_
        refine z_iload_n (pc := 79) C dX7_sheet_79 rfl ?_
        refine z_imulN (pc := 80) C dX7_sheet_80 ?_
        refine z_iload (pc := 81) C dX7_sheet_81 rfl ?_
        refine z_iaddN (pc := 83) C dX7_sheet_83 ?_
        refine z_iconstN (pc := 84) C 0 dX7_sheet_84 ?_
        refine z_iast (pc := 85) C dX7_sheet_85 (ml_a19 hM) (ml_n19 hM) (by omega) (by decide) ?_
        refine z_iincN (pc := 86) C 1 dX7_sheet_86 rfl (by decide) rfl ?_
        refine z_goto (pc := 89) C 66 dX7_sheet_89 (by decide) ?_
        refine ih (q + 1) _ (by omega) (fun j => ?_) (fun a h => by rw [up2_n _ _ _ h]; exact ho a h)
        rw [up2_s]
        by_cases e : j = 24 * x0 + q
        · rw [e, upd_s, if_pos ⟨by omega, by omega⟩]; rfl
        · rw [upd_n _ _ e, hc j]
          by_cases e2 : 24 * x0 ≤ j ∧ j < 24 * x0 + q
          · rw [if_pos e2, if_pos ⟨by omega, by omega⟩]
          · rw [if_neg e2, if_neg (by omega)]
    refine z_if_eqF (pc := 4) C 26 dX7_sheet_4 (by decide) (by decide) ?_
    refine z_iload_n (pc := 7) C dX7_sheet_7 rfl ?_
    refine z_iconst (v := -1) (pc := 8) C dX7_sheet_8 (by decide) ?_
    refine z_iconstN (pc := 9) C 1 dX7_sheet_9 ?_
    refine kX7_92 (pc := 10) C dX7_sheet_10 (m7_in κ.2.1 E S im k (-1) (nI 1)) (by decide) (Nat.le_of_ble_eq_true rfl) (Nat.le_refl _) (Nat.le_refl _) (fun v_10 S_10 im_10 h_10 => ?_)
    rcases h_10 with ⟨hb_10, rfl, rfl, rfl⟩ | ⟨hb_10, rfl, rfl, rfl⟩
    · 
      refine z_if_eqF (pc := 13) C 26 dX7_sheet_13 (by decide) (by decide) ?_
      refine z_iload_n (pc := 16) C dX7_sheet_16 rfl ?_
      refine z_if_lt (pc := 17) C 29 dX7_sheet_17 (by decide) (fun c_17 => ?_) (fun c_17 => ?_)
      · 
        refine z_iload_n (pc := 29) C dX7_sheet_29 rfl ?_
        refine z_if_ltT (pc := 30) C 41 dX7_sheet_30 (by decide) (c_17) ?_
        refine z_aload_n (pc := 41) C dX7_sheet_41 rfl ?_
        refine gX7_64 (pc := 42) C dX7_sheet_42 (ml_K hM) (ml_r28 hM) ?_
        refine z_iload_n (pc := 45) C dX7_sheet_45 rfl ?_
        refine z_iload_n (pc := 46) C dX7_sheet_46 rfl ?_
        refine z_iast (pc := 47) C dX7_sheet_47 (ml_a17 hM) (ml_n17 hM) (by omega) (by decide) ?_
        refine z_aload_n (pc := 48) C dX7_sheet_48 rfl ?_
        refine gX7_67 (pc := 49) C dX7_sheet_49 (ml_K hM) (ml_r29 hM) ?_
        refine z_iload_n (pc := 52) C dX7_sheet_52 rfl ?_
        refine z_iload_n (pc := 53) C dX7_sheet_53 rfl ?_
        have j_62 : ∀ x62 : Int32, x62 = (if k < 0 then nI 0 else w) → V E κ 5 0 0 62 [some (.ref M), some (.int (nI x0)), some (.int k), some (.int w), none] [.int x62, .int (nI x0), .ref (M + 18)] S (up2 im (M + 17) x0 k) := by
          intro x62 ex62
          refine z_iast (pc := 62) C dX7_sheet_62 (ml_a18 hM) (ml_n18 hM) (by omega) (by decide) ?_
          refine z_iconstN (pc := 63) C 0 dX7_sheet_63 ?_
          refine z_istore (pc := 64) C dX7_sheet_64 (by decide) rfl ?_
          exact loop _ (by rw [up2_s, upd_s, ex62]; simp only [r_sheet, if_pos hb_1, if_pos hb_10, if_pos c_17]) (by rw [up2_n _ _ _ (by omega), up2_s]) (by rw [up2_s, up2_n _ _ _ (by omega), ex62]; simp only [r_sheet, if_pos hb_1, if_pos hb_10, if_pos c_17]) (by rw [up2_n _ _ _ (by omega), up2_n _ _ _ (by omega)]) (fun a q1 q2 => by rw [up2_n _ _ _ q2, up2_n _ _ _ q1]) (fun _ h => by simp only [g_sheet, hcx0, if_pos hb_1, if_pos hb_10, if_pos c_17]; exact h) 24 0 _ (by omega) (fun j => by rw [up2_n _ _ _ (by omega), up2_n _ _ _ (by omega), if_neg (by omega)]) (fun _ _ => rfl)
        refine z_if_geF (pc := 54) C 61 dX7_sheet_54 (by decide) (i_nge c_17) ?_
        refine z_iconstN (pc := 57) C 0 dX7_sheet_57 ?_
        refine z_goto (pc := 58) C 62 dX7_sheet_58 (by decide) ?_
        exact j_62 _ (by simp only [if_pos hb_1, if_pos hb_10, if_pos c_17])
      · 
        refine z_iload_n (pc := 20) C dX7_sheet_20 rfl ?_
        refine z_bipushN (pc := 21) C 24 (by decide) dX7_sheet_21 ?_
        refine z_icmp_le (pc := 23) C 29 dX7_sheet_23 (by decide) (fun c_23 => ?_) (fun c_23 => ?_)
        · 
          refine z_iload_n (pc := 29) C dX7_sheet_29 rfl ?_
          refine z_if_ltF (pc := 30) C 41 dX7_sheet_30 (by decide) (c_17) ?_
          refine z_iload_n (pc := 33) C dX7_sheet_33 rfl ?_
          refine z_if_ge (pc := 34) C 41 dX7_sheet_34 (by decide) (fun c_34 => ?_) (fun c_34 => ?_)
          · 
            refine z_aload_n (pc := 41) C dX7_sheet_41 rfl ?_
            refine gX7_64 (pc := 42) C dX7_sheet_42 (ml_K hM) (ml_r28 hM) ?_
            refine z_iload_n (pc := 45) C dX7_sheet_45 rfl ?_
            refine z_iload_n (pc := 46) C dX7_sheet_46 rfl ?_
            refine z_iast (pc := 47) C dX7_sheet_47 (ml_a17 hM) (ml_n17 hM) (by omega) (by decide) ?_
            refine z_aload_n (pc := 48) C dX7_sheet_48 rfl ?_
            refine gX7_67 (pc := 49) C dX7_sheet_49 (ml_K hM) (ml_r29 hM) ?_
            refine z_iload_n (pc := 52) C dX7_sheet_52 rfl ?_
            refine z_iload_n (pc := 53) C dX7_sheet_53 rfl ?_
            have j_62 : ∀ x62 : Int32, x62 = (if k < 0 then nI 0 else w) → V E κ 5 0 0 62 [some (.ref M), some (.int (nI x0)), some (.int k), some (.int w), none] [.int x62, .int (nI x0), .ref (M + 18)] S (up2 im (M + 17) x0 k) := by
              intro x62 ex62
              refine z_iast (pc := 62) C dX7_sheet_62 (ml_a18 hM) (ml_n18 hM) (by omega) (by decide) ?_
              refine z_iconstN (pc := 63) C 0 dX7_sheet_63 ?_
              refine z_istore (pc := 64) C dX7_sheet_64 (by decide) rfl ?_
              exact loop _ (by rw [up2_s, upd_s, ex62]; simp only [r_sheet, if_pos hb_1, if_pos hb_10, if_neg c_17, if_pos c_23, if_pos c_34]) (by rw [up2_n _ _ _ (by omega), up2_s]) (by rw [up2_s, up2_n _ _ _ (by omega), ex62]; simp only [r_sheet, if_pos hb_1, if_pos hb_10, if_neg c_17, if_pos c_23, if_pos c_34]) (by rw [up2_n _ _ _ (by omega), up2_n _ _ _ (by omega)]) (fun a q1 q2 => by rw [up2_n _ _ _ q2, up2_n _ _ _ q1]) (fun _ h => by simp only [g_sheet, hcx0, if_pos hb_1, if_pos hb_10, if_neg c_17, if_pos c_23, if_pos c_34]; exact h) 24 0 _ (by omega) (fun j => by rw [up2_n _ _ _ (by omega), up2_n _ _ _ (by omega), if_neg (by omega)]) (fun _ _ => rfl)
            refine z_if_geT (pc := 54) C 61 dX7_sheet_54 (by decide) (i_ge c_17) ?_
            refine z_iload_n (pc := 61) C dX7_sheet_61 rfl ?_
            exact j_62 _ (by simp only [if_pos hb_1, if_pos hb_10, if_neg c_17, if_pos c_23, if_pos c_34])
          · 
            refine z_ldcw (pc := 37) C dX7_sheet_37 wk_X7_269 ?_
            exact z_iret (pc := 40) C ρ dX7_sheet_40 (⟨_, rfl, by simp only [r_sheet, if_pos hb_1, if_pos hb_10, if_neg c_17, if_pos c_23, if_neg c_34], rfl, by simp only [g_sheet, if_pos hb_1, if_pos hb_10, if_neg c_17, if_pos c_23, if_neg c_34]⟩)
        · 
          refine z_ldc (pc := 26) C dX7_sheet_26 wk_X7_100 ?_
          exact z_iret (pc := 28) C ρ dX7_sheet_28 (⟨_, rfl, by simp only [r_sheet, if_pos hb_1, if_pos hb_10, if_neg c_17, if_neg c_23], rfl, by simp only [g_sheet, if_pos hb_1, if_pos hb_10, if_neg c_17, if_neg c_23]⟩)
    · 
      refine z_if_eqT (pc := 13) C 26 dX7_sheet_13 (by decide) (by decide) ?_
      refine z_ldc (pc := 26) C dX7_sheet_26 wk_X7_100 ?_
      exact z_iret (pc := 28) C ρ dX7_sheet_28 (⟨_, rfl, by simp only [r_sheet, if_pos hb_1, if_neg hb_10], rfl, by simp only [g_sheet, if_pos hb_1, if_neg hb_10]⟩)
  · 
    refine z_if_eqT (pc := 4) C 26 dX7_sheet_4 (by decide) (by decide) ?_
    refine z_ldc (pc := 26) C dX7_sheet_26 wk_X7_100 ?_
    exact z_iret (pc := 28) C ρ dX7_sheet_28 (⟨_, rfl, by simp only [r_sheet, if_neg hb_1], rfl, by simp only [g_sheet, if_neg hb_1]⟩)
def r_mark (x so sz p w : Int32) : Int32 := if isSh x then (if 0 ≤ so then (if nI 0 ≤ p ∧ p ≤ sz - nI 1 then (if so = 0 then (if w = -1000000005 then -1000000012 else nI 1) else (if so = nI 1 then (if w = -1000000005 then nI 1 else if -99999 ≤ w ∧ w ≤ 99999 then nI 1 else -1000000001) else nI 1)) else -1000000013) else -1000000011) else -1000000001
def g_mark (M : Nat) (im : Mem) (x p w : Int32) (im' : Mem) : Prop := if r_mark x (im (M + 17) x.toNatClampNeg) (im (M + 18) x.toNatClampNeg) p w = nI 1 then im' = up2 im (M + 19) (24 * x.toNatClampNeg + p.toNatClampNeg) (if im (M + 17) x.toNatClampNeg = 0 then w.toInt16.toInt32 else w) else im' = im
set_option maxRecDepth 100000 in
set_option maxHeartbeats 4000000 in
theorem m7_mark (l : Launch) (E : Ex) (S : Sx) (im : Mem) (M : Nat) (hM : ML S M) (hsh : ShOk M im) (x p w : Int32) : Mt l E yX7_mark cX7_mark 4 (some .int) 3 0 0 [.ref M, .int x, .int p, .int w] S im (pI (pQ S (r_mark x (im (M + 17) x.toNatClampNeg) (im (M + 18) x.toNatClampNeg) p w) (g_mark M im x p w))) := by
  refine Mt.of (by decide +kernel) rfl rfl (Nat.le_of_ble_eq_true rfl) ?_
  intro κ hκ C ρ
  subst hκ
  show V E κ 4 0 0 0 [some (.ref M), some (.int x), some (.int p), some (.int w)] [] S im
  refine z_iload_n (pc := 0) C dX7_mark_0 rfl ?_
  refine kX7_195 (pc := 1) C dX7_mark_1 (m7_isSheet κ.2.1 E S im x) (by decide) (Nat.le_of_ble_eq_true rfl) (Nat.le_refl _) (Nat.le_refl _) (fun v_1 S_1 im_1 h_1 => ?_)
  rcases h_1 with ⟨hb_1, rfl, rfl, rfl⟩ | ⟨hb_1, rfl, rfl, rfl⟩
  · 
    obtain ⟨x0, hx00, hx0, rfl⟩ := (rng (by decide) (by decide)).mp hb_1
    have hcx0 : (nI x0).toNatClampNeg = x0 := nI_clamp (by omega)
    obtain ⟨⟨z, hz, hze⟩, hso⟩ := hsh x0 (by omega)
    refine z_if_neT (pc := 4) C 10 dX7_mark_4 (by decide) (by decide) ?_
    refine z_aload_n (pc := 10) C dX7_mark_10 rfl ?_
    refine gX7_64 (pc := 11) C dX7_mark_11 (ml_K hM) (ml_r28 hM) ?_
    refine z_iload_n (pc := 14) C dX7_mark_14 rfl ?_
    refine z_iald (pc := 15) C dX7_mark_15 (ml_a17 hM) (ml_n17 hM) (by omega) (by decide) ?_
    refine z_if_ge (pc := 16) C 22 dX7_mark_16 (by decide) (fun c_16 => ?_) (fun c_16 => ?_)
    · 
      refine z_iload_n (pc := 22) C dX7_mark_22 rfl ?_
      refine z_iconstN (pc := 23) C 0 dX7_mark_23 ?_
      refine z_aload_n (pc := 24) C dX7_mark_24 rfl ?_
      refine gX7_67 (pc := 25) C dX7_mark_25 (ml_K hM) (ml_r29 hM) ?_
      refine z_iload_n (pc := 28) C dX7_mark_28 rfl ?_
      refine z_iald (pc := 29) C dX7_mark_29 (ml_a18 hM) (ml_n18 hM) (by omega) (by decide) ?_
      refine z_eqi (y := nI z) (hze) ?_
      refine z_iconstN (pc := 30) C 1 dX7_mark_30 ?_
      refine z_isub (pc := 31) C dX7_mark_31 ?_
      refine kX7_92 (pc := 32) C dX7_mark_32 (m7_in κ.2.1 E S im p (nI 0) (nI z - nI 1)) (by decide) (Nat.le_of_ble_eq_true rfl) (Nat.le_refl _) (Nat.le_refl _) (fun v_32 S_32 im_32 h_32 => ?_)
      rcases h_32 with ⟨hb_32, rfl, rfl, rfl⟩ | ⟨hb_32, rfl, rfl, rfl⟩
      · 
        obtain ⟨p0, hp0, rfl⟩ := (in_sz (by omega)).mp hb_32
        have hcp0 : (nI p0).toNatClampNeg = p0 := nI_clamp (by omega)
        refine z_if_neT (pc := 35) C 42 dX7_mark_35 (by decide) (by decide) ?_
        refine z_aload_n (pc := 42) C dX7_mark_42 rfl ?_
        refine gX7_64 (pc := 43) C dX7_mark_43 (ml_K hM) (ml_r28 hM) ?_
        refine z_iload_n (pc := 46) C dX7_mark_46 rfl ?_
        refine z_iald (pc := 47) C dX7_mark_47 (ml_a17 hM) (ml_n17 hM) (by omega) (by decide) ?_
        refine z_if_ne (pc := 48) C 60 dX7_mark_48 (by decide) (fun c_48 => ?_) (fun c_48 => ?_)
        · 
          refine z_aload_n (pc := 60) C dX7_mark_60 rfl ?_
          refine gX7_64 (pc := 61) C dX7_mark_61 (ml_K hM) (ml_r28 hM) ?_
          refine z_iload_n (pc := 64) C dX7_mark_64 rfl ?_
          refine z_iald (pc := 65) C dX7_mark_65 (ml_a17 hM) (ml_n17 hM) (by omega) (by decide) ?_
          refine z_iconstN (pc := 66) C 1 dX7_mark_66 ?_
          refine z_icmp_ne (pc := 67) C 92 dX7_mark_67 (by decide) (fun c_67 => ?_) (fun c_67 => ?_)
          · 
            refine z_aload_n (pc := 92) C dX7_mark_92 rfl ?_
            refine gX7_70 (pc := 93) C dX7_mark_93 (ml_K hM) (ml_r30 hM) ?_
            refine z_bipushN (pc := 96) C 24 (by decide) dX7_mark_96 ?_
            refine z_iload_n (pc := 98) C dX7_mark_98 rfl ?_
            refine z_imulN (pc := 99) C dX7_mark_99 ?_
            refine z_iload_n (pc := 100) C dX7_mark_100 rfl ?_
            refine z_iaddN (pc := 101) C dX7_mark_101 ?_
            refine z_aload_n (pc := 102) C dX7_mark_102 rfl ?_
            refine gX7_64 (pc := 103) C dX7_mark_103 (ml_K hM) (ml_r28 hM) ?_
            refine z_iload_n (pc := 106) C dX7_mark_106 rfl ?_
            refine z_iald (pc := 107) C dX7_mark_107 (ml_a17 hM) (ml_n17 hM) (by omega) (by decide) ?_
            refine z_if_neT (pc := 108) C 116 dX7_mark_108 (by decide) (c_48) ?_
            refine z_iload_n (pc := 116) C dX7_mark_116 rfl ?_
            refine z_iast (pc := 117) C dX7_mark_117 (ml_a19 hM) (ml_n19 hM) (by omega) (by decide) ?_
            refine z_iconstN (pc := 118) C 1 dX7_mark_118 ?_
            exact z_iret (pc := 119) C ρ dX7_mark_119 (⟨_, rfl, by simp only [r_mark, hcx0, hze, if_pos hb_1, if_pos c_16, if_pos hb_32, if_neg c_48, if_neg c_67], rfl, by simp only [g_mark, r_mark, hcx0, hcp0, hze, if_pos hb_1, if_pos c_16, if_pos hb_32, if_neg c_48, if_neg c_67, if_true]⟩)
          · 
            refine z_iload_n (pc := 70) C dX7_mark_70 rfl ?_
            refine z_ldc (pc := 71) C dX7_mark_71 wk_X7_91 ?_
            refine z_icmp_eq (pc := 73) C 92 dX7_mark_73 (by decide) (fun c_73 => ?_) (fun c_73 => ?_)
            · 
              refine z_aload_n (pc := 92) C dX7_mark_92 rfl ?_
              refine gX7_70 (pc := 93) C dX7_mark_93 (ml_K hM) (ml_r30 hM) ?_
              refine z_bipushN (pc := 96) C 24 (by decide) dX7_mark_96 ?_
              refine z_iload_n (pc := 98) C dX7_mark_98 rfl ?_
              refine z_imulN (pc := 99) C dX7_mark_99 ?_
              refine z_iload_n (pc := 100) C dX7_mark_100 rfl ?_
              refine z_iaddN (pc := 101) C dX7_mark_101 ?_
              refine z_aload_n (pc := 102) C dX7_mark_102 rfl ?_
              refine gX7_64 (pc := 103) C dX7_mark_103 (ml_K hM) (ml_r28 hM) ?_
              refine z_iload_n (pc := 106) C dX7_mark_106 rfl ?_
              refine z_iald (pc := 107) C dX7_mark_107 (ml_a17 hM) (ml_n17 hM) (by omega) (by decide) ?_
              refine z_if_neT (pc := 108) C 116 dX7_mark_108 (by decide) (c_48) ?_
              refine z_iload_n (pc := 116) C dX7_mark_116 rfl ?_
              refine z_iast (pc := 117) C dX7_mark_117 (ml_a19 hM) (ml_n19 hM) (by omega) (by decide) ?_
              refine z_iconstN (pc := 118) C 1 dX7_mark_118 ?_
              exact z_iret (pc := 119) C ρ dX7_mark_119 (⟨_, rfl, by simp only [r_mark, hcx0, hze, if_pos hb_1, if_pos c_16, if_pos hb_32, if_neg c_48, if_pos c_67, if_pos c_73], rfl, by simp only [g_mark, r_mark, hcx0, hcp0, hze, if_pos hb_1, if_pos c_16, if_pos hb_32, if_neg c_48, if_pos c_67, if_pos c_73, if_true]⟩)
            · 
              refine z_iload_n (pc := 76) C dX7_mark_76 rfl ?_
              refine z_ldcw (pc := 77) C dX7_mark_77 wk_X7_271 ?_
              refine z_ldcw (pc := 80) C dX7_mark_80 wk_X7_272 ?_
              refine kX7_92 (pc := 83) C dX7_mark_83 (m7_in κ.2.1 E S im w (-99999) 99999) (by decide) (Nat.le_of_ble_eq_true rfl) (Nat.le_refl _) (Nat.le_refl _) (fun v_83 S_83 im_83 h_83 => ?_)
              rcases h_83 with ⟨hb_83, rfl, rfl, rfl⟩ | ⟨hb_83, rfl, rfl, rfl⟩
              · 
                refine z_if_neT (pc := 86) C 92 dX7_mark_86 (by decide) (by decide) ?_
                refine z_aload_n (pc := 92) C dX7_mark_92 rfl ?_
                refine gX7_70 (pc := 93) C dX7_mark_93 (ml_K hM) (ml_r30 hM) ?_
                refine z_bipushN (pc := 96) C 24 (by decide) dX7_mark_96 ?_
                refine z_iload_n (pc := 98) C dX7_mark_98 rfl ?_
                refine z_imulN (pc := 99) C dX7_mark_99 ?_
                refine z_iload_n (pc := 100) C dX7_mark_100 rfl ?_
                refine z_iaddN (pc := 101) C dX7_mark_101 ?_
                refine z_aload_n (pc := 102) C dX7_mark_102 rfl ?_
                refine gX7_64 (pc := 103) C dX7_mark_103 (ml_K hM) (ml_r28 hM) ?_
                refine z_iload_n (pc := 106) C dX7_mark_106 rfl ?_
                refine z_iald (pc := 107) C dX7_mark_107 (ml_a17 hM) (ml_n17 hM) (by omega) (by decide) ?_
                refine z_if_neT (pc := 108) C 116 dX7_mark_108 (by decide) (c_48) ?_
                refine z_iload_n (pc := 116) C dX7_mark_116 rfl ?_
                refine z_iast (pc := 117) C dX7_mark_117 (ml_a19 hM) (ml_n19 hM) (by omega) (by decide) ?_
                refine z_iconstN (pc := 118) C 1 dX7_mark_118 ?_
                exact z_iret (pc := 119) C ρ dX7_mark_119 (⟨_, rfl, by simp only [r_mark, hcx0, hze, if_pos hb_1, if_pos c_16, if_pos hb_32, if_neg c_48, if_pos c_67, if_neg c_73, if_pos hb_83], rfl, by simp only [g_mark, r_mark, hcx0, hcp0, hze, if_pos hb_1, if_pos c_16, if_pos hb_32, if_neg c_48, if_pos c_67, if_neg c_73, if_pos hb_83, if_true]⟩)
              · 
                refine z_if_neF (pc := 86) C 92 dX7_mark_86 (by decide) (by decide) ?_
                refine z_ldc (pc := 89) C dX7_mark_89 wk_X7_100 ?_
                exact z_iret (pc := 91) C ρ dX7_mark_91 (⟨_, rfl, by simp only [r_mark, hcx0, hze, if_pos hb_1, if_pos c_16, if_pos hb_32, if_neg c_48, if_pos c_67, if_neg c_73, if_neg hb_83], rfl, by simp only [g_mark, r_mark, hcx0, hze, if_pos hb_1, if_pos c_16, if_pos hb_32, if_neg c_48, if_pos c_67, if_neg c_73, if_neg hb_83]; exact (if_neg (by decide)).mpr trivial⟩)
        · 
          refine z_iload_n (pc := 51) C dX7_mark_51 rfl ?_
          refine z_ldc (pc := 52) C dX7_mark_52 wk_X7_91 ?_
          refine z_icmp_ne (pc := 54) C 60 dX7_mark_54 (by decide) (fun c_54 => ?_) (fun c_54 => ?_)
          · 
            refine z_aload_n (pc := 60) C dX7_mark_60 rfl ?_
            refine gX7_64 (pc := 61) C dX7_mark_61 (ml_K hM) (ml_r28 hM) ?_
            refine z_iload_n (pc := 64) C dX7_mark_64 rfl ?_
            refine z_iald (pc := 65) C dX7_mark_65 (ml_a17 hM) (ml_n17 hM) (by omega) (by decide) ?_
            refine z_iconstN (pc := 66) C 1 dX7_mark_66 ?_
            refine z_icmp_neT (pc := 67) C 92 dX7_mark_67 (by decide) (by rw [c_48]; decide) ?_
            refine z_aload_n (pc := 92) C dX7_mark_92 rfl ?_
            refine gX7_70 (pc := 93) C dX7_mark_93 (ml_K hM) (ml_r30 hM) ?_
            refine z_bipushN (pc := 96) C 24 (by decide) dX7_mark_96 ?_
            refine z_iload_n (pc := 98) C dX7_mark_98 rfl ?_
            refine z_imulN (pc := 99) C dX7_mark_99 ?_
            refine z_iload_n (pc := 100) C dX7_mark_100 rfl ?_
            refine z_iaddN (pc := 101) C dX7_mark_101 ?_
            refine z_aload_n (pc := 102) C dX7_mark_102 rfl ?_
            refine gX7_64 (pc := 103) C dX7_mark_103 (ml_K hM) (ml_r28 hM) ?_
            refine z_iload_n (pc := 106) C dX7_mark_106 rfl ?_
            refine z_iald (pc := 107) C dX7_mark_107 (ml_a17 hM) (ml_n17 hM) (by omega) (by decide) ?_
            refine z_if_neF (pc := 108) C 116 dX7_mark_108 (by decide) (c_48) ?_
            refine z_iload_n (pc := 111) C dX7_mark_111 rfl ?_
            refine z_i2s (pc := 112) C dX7_mark_112 ?_
            refine z_goto (pc := 113) C 117 dX7_mark_113 (by decide) ?_
            refine z_iast (pc := 117) C dX7_mark_117 (ml_a19 hM) (ml_n19 hM) (by omega) (by decide) ?_
            refine z_iconstN (pc := 118) C 1 dX7_mark_118 ?_
            exact z_iret (pc := 119) C ρ dX7_mark_119 (⟨_, rfl, by simp only [r_mark, hcx0, hze, if_pos hb_1, if_pos c_16, if_pos hb_32, if_pos c_48, if_neg c_54], rfl, by simp only [g_mark, r_mark, hcx0, hcp0, hze, if_pos hb_1, if_pos c_16, if_pos hb_32, if_pos c_48, if_neg c_54, if_true]⟩)
          · 
            refine z_ldc (pc := 57) C dX7_mark_57 wk_X7_138 ?_
            exact z_iret (pc := 59) C ρ dX7_mark_59 (⟨_, rfl, by simp only [r_mark, hcx0, hze, if_pos hb_1, if_pos c_16, if_pos hb_32, if_pos c_48, if_pos c_54], rfl, by simp only [g_mark, r_mark, hcx0, hze, if_pos hb_1, if_pos c_16, if_pos hb_32, if_pos c_48, if_pos c_54]; exact (if_neg (by decide)).mpr trivial⟩)
      · 
        refine z_if_neF (pc := 35) C 42 dX7_mark_35 (by decide) (by decide) ?_
        refine z_ldcw (pc := 38) C dX7_mark_38 wk_X7_270 ?_
        exact z_iret (pc := 41) C ρ dX7_mark_41 (⟨_, rfl, by simp only [r_mark, hcx0, hze, if_pos hb_1, if_pos c_16, if_neg hb_32], rfl, by simp only [g_mark, r_mark, hcx0, hze, if_pos hb_1, if_pos c_16, if_neg hb_32]; exact (if_neg (by decide)).mpr trivial⟩)
    · 
      refine z_ldc (pc := 19) C dX7_mark_19 wk_X7_198 ?_
      exact z_iret (pc := 21) C ρ dX7_mark_21 (⟨_, rfl, by simp only [r_mark, hcx0, hze, if_pos hb_1, if_neg c_16], rfl, by simp only [g_mark, r_mark, hcx0, hze, if_pos hb_1, if_neg c_16]; exact (if_neg (by decide)).mpr trivial⟩)
  · 
    refine z_if_neF (pc := 4) C 10 dX7_mark_4 (by decide) (by decide) ?_
    refine z_ldc (pc := 7) C dX7_mark_7 wk_X7_100 ?_
    exact z_iret (pc := 9) C ρ dX7_mark_9 (⟨_, rfl, by simp only [r_mark, if_neg hb_1], rfl, by simp only [g_mark, r_mark, if_neg hb_1]; exact (if_neg (by decide)).mpr trivial⟩)
