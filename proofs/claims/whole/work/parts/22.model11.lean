/-! the reference: what will be, third part -/
set_option maxRecDepth 100000 in
set_option maxHeartbeats 4000000 in
theorem m7_walkedBehind (l : Launch) (E : Ex) (S : Sx) (im : Mem) (M : Nat) (hM : ML S M) (n n7 : Nat) (f g : Nat → Int32) (hg : im (M + 1) = g) (hs : sam f g) (hok : MOk f n n7) (h6 : ∀ j, j < 78 → im (M + 6) j = f j) (idle : Int32) (hidle : im M 4 = idle) (k : Nat) (hk : k < 10000) : Mt l E yX7_walkedBehind cX7_walkedBehind 3 (some .int) 7 0 0 [.ref M, .int (nI k)] S im (pI (fun v S' im' => s_nights g n n7 idle k 6 = v ∧ S = S' ∧ im' (M + 1) = f ∧ im' M = upd (im M) 4 (-1) ∧ ∀ a, a ≠ M → a ≠ M + 1 → a ≠ M + 4 → a ≠ M + 5 → a ≠ M + 15 → a ≠ M + 16 → im' a = im a)) := by
  refine Mt.of (by decide +kernel) rfl rfl (Nat.le_of_ble_eq_true rfl) ?_
  intro κ hκ C ρ
  subst hκ
  show V E κ 3 0 0 0 [some (.ref M), some (.int (nI k)), none] [] S im
  refine z_aload_n (pc := 0) C dX7_walkedBehind_0 rfl ?_
  refine z_iload_n (pc := 1) C dX7_walkedBehind_1 rfl ?_
  refine kX7_166 (pc := 2) C dX7_walkedBehind_2 (m7_goesOn κ.2.1 E S im M hM n n7 g hg (hok.sam hs) idle hidle k hk) (ml_K hM) (by decide) (Nat.le_of_ble_eq_true rfl) (Nat.le_refl _) (Nat.le_refl _) (fun S_2 im_2 h_2 => ?_)
  obtain ⟨rfl, hm, hfr⟩ := h_2
  refine z_aload_n (pc := 5) C dX7_walkedBehind_5 rfl ?_
  refine gX7_9 (pc := 6) C dX7_walkedBehind_6 (ml_K hM) (ml_r0 hM) ?_
  refine z_bipushN (pc := 9) C 6 (by decide) dX7_walkedBehind_9 ?_
  refine z_iald (pc := 11) C dX7_walkedBehind_11 (ml_a1 hM) (ml_n1 hM) (by omega) (by decide) ?_
  refine z_eqi (y := s_nights g n n7 idle k 6) (by rw [hm]) ?_
  refine z_istore_n (pc := 12) C dX7_walkedBehind_12 (by decide) rfl ?_
  refine z_aload_n (pc := 13) C dX7_walkedBehind_13 rfl ?_
  refine kX7_185 (pc := 14) C dX7_walkedBehind_14 (m7_putsBack κ.2.1 E S im_2 M hM) (ml_K hM) (by decide) (Nat.le_of_ble_eq_true rfl) (Nat.le_refl _) (Nat.le_refl _) (fun S_14 im_14 h_14 => ?_)
  obtain ⟨rfl, hb1, hb2, hb3⟩ := h_14
  refine z_iload_n (pc := 17) C dX7_walkedBehind_17 rfl ?_
  exact z_iret (pc := 18) C ρ dX7_walkedBehind_18 (⟨_, rfl, rfl, rfl, back_eq (b := im (M + 6)) (hs.tr (sam_nights hok.1.1 k)) h6 (fun j => by rw [hb1 j, hfr _ (by omega) (by omega) (by omega) (by omega) (by omega), hm]), by rw [hb2, hfr _ (by omega) (by omega) (by omega) (by omega) (by omega)], fun a q0 q1 q2 q3 q4 q5 => by rw [hb3 a q0 q1]; exact hfr a q1 q2 q3 q4 q5⟩)
/-- the least of some numbers and its place, as the reference finds them -/
def s_min (w : Nat → Int32) : Nat → Int32 × Int32
  | 0 => (-1, nI 0)
  | k + 1 => let q := s_min w k; let b := if q.1 < 0 then nI k else if q.2 ≤ w k then q.1 else nI k; (b, if b = nI k then w k else q.2)
theorem s_min_s (w : Nat → Int32) (k : Nat) : s_min w (k + 1) = (if (s_min w k).1 < 0 then nI k else if (s_min w k).2 ≤ w k then (s_min w k).1 else nI k, if (if (s_min w k).1 < 0 then nI k else if (s_min w k).2 ≤ w k then (s_min w k).1 else nI k) = nI k then w k else (s_min w k).2) := rfl
def w_law (f : Nat → Int32) (n n7 k : Nat) : Nat → Int32 := fun q => s_nights (upd f 3 (nI q)) n n7 (-1) k 6
def w_spared (f : Nat → Int32) (n n7 k : Nat) : Nat → Int32 := fun q => s_nights f n n7 (nI q) k 6
def r_leastLaw (f : Nat → Int32) (n n7 : Nat) (x w : Int32) : Int32 := if nI 1 ≤ x ∧ x ≤ nI 60 then (if nI 0 ≤ w ∧ w ≤ nI 1 then (if w = 0 then (s_min (w_law f n n7 x.toNatClampNeg) 3).1 else (s_min (w_law f n n7 x.toNatClampNeg) 3).2) else -1000000001) else -1000000001
def r_spared (f : Nat → Int32) (n n7 : Nat) (x w : Int32) : Int32 := if nI 1 ≤ x ∧ x ≤ nI 60 then (if nI 0 ≤ w ∧ w ≤ nI 1 then (if 0 ≤ (s_min (w_spared f n n7 x.toNatClampNeg) n).1 then (if w = 0 then (s_min (w_spared f n n7 x.toNatClampNeg) n).1 else (s_min (w_spared f n n7 x.toNatClampNeg) n).2) else -1000000005) else -1000000001) else -1000000001
set_option maxRecDepth 100000 in
set_option maxHeartbeats 4000000 in
theorem m7_leastLaw (l : Launch) (E : Ex) (S : Sx) (im : Mem) (M : Nat) (hM : ML S M) (n n7 : Nat) (f : Nat → Int32) (hf0 : im (M + 1) = f) (hok : MOk f n n7) (hidle : im M 4 = -1) (x w : Int32) : Mt l E yX7_leastLaw cX7_leastLaw 7 (some .int) 8 0 0 [.ref M, .int x, .int w] S im (pI (pP S im M (r_leastLaw f n n7 x w) (f))) := by
  refine Mt.of (by decide +kernel) rfl rfl (Nat.le_of_ble_eq_true rfl) ?_
  intro κ hκ C ρ
  subst hκ
  show V E κ 7 0 0 0 [some (.ref M), some (.int x), some (.int w), none, none, none, none] [] S im
  refine z_iload_n (pc := 0) C dX7_leastLaw_0 rfl ?_
  refine z_iconstN (pc := 1) C 1 dX7_leastLaw_1 ?_
  refine z_bipushN (pc := 2) C 60 (by decide) dX7_leastLaw_2 ?_
  refine kX7_92 (pc := 4) C dX7_leastLaw_4 (m7_in κ.2.1 E S im (x) (nI 1) (nI 60)) (by decide) (Nat.le_of_ble_eq_true rfl) (Nat.le_refl _) (Nat.le_refl _) (fun v_4 S_4 im_4 h_4 => ?_)
  rcases h_4 with ⟨hb_4, rfl, rfl, rfl⟩ | ⟨hb_4, rfl, rfl, rfl⟩
  · 
    obtain ⟨x0, hx00, hx0, rfl⟩ := (rng (by decide) (by decide)).mp hb_4
    have hcl : (nI x0).toNatClampNeg = x0 := nI_clamp (by omega)
    refine z_if_eqF (pc := 7) C 19 dX7_leastLaw_7 (by decide) (by decide) ?_
    refine z_iload_n (pc := 10) C dX7_leastLaw_10 rfl ?_
    refine z_iconstN (pc := 11) C 0 dX7_leastLaw_11 ?_
    refine z_iconstN (pc := 12) C 1 dX7_leastLaw_12 ?_
    refine kX7_92 (pc := 13) C dX7_leastLaw_13 (m7_in κ.2.1 E S im (w) (nI 0) (nI 1)) (by decide) (Nat.le_of_ble_eq_true rfl) (Nat.le_refl _) (Nat.le_refl _) (fun v_13 S_13 im_13 h_13 => ?_)
    rcases h_13 with ⟨hb_13, rfl, rfl, rfl⟩ | ⟨hb_13, rfl, rfl, rfl⟩
    · 
      refine z_if_neT (pc := 16) C 22 dX7_leastLaw_16 (by decide) (by decide) ?_
      refine z_aload_n (pc := 22) C dX7_leastLaw_22 rfl ?_
      refine kX7_173 (pc := 23) C dX7_leastLaw_23 (m7_thinks κ.2.1 E S im M hM) (ml_K hM) (by decide) (Nat.le_of_ble_eq_true rfl) (Nat.le_refl _) (Nat.le_refl _) (fun S_23 im_23 h_23 => ?_)
      obtain ⟨rfl, hth, hth2⟩ := h_23
      rw [hf0] at hth
      have hf1 : im_23 (M + 1) = f := by rw [hth2 _ (by omega)]; exact hf0
      have hi1 : im_23 M 4 = -1 := by rw [hth2 _ (by omega)]; exact hidle
      have loop : ∀ (r q : Nat) (im' : Mem) (b le : Int32) (y6 : Option Value), q + r = 3 → b = (s_min (w_law f n n7 x0) q).1 → le = (s_min (w_law f n n7 x0) q).2 → im' (M + 1) = f → frP M im im' → (∀ j, j < 78 → im' (M + 6) j = f j) → im' M = im M → V E κ 7 0 0 34 [some (.ref M), some (.int (nI x0)), some (.int w), some (.int b), some (.int le), some (.int (nI q)), y6] [] S im' := by
        intro r
        induction r with
        | zero =>
          intro q im' b le y6 hq hb hle hm hfr h6 hMM
          have hq3 : q = 3 := by omega
          refine z_iload (pc := 34) C dX7_leastLaw_34 rfl ?_
          refine z_iconstN (pc := 36) C 3 dX7_leastLaw_36 ?_
          refine z_icmp_geT (pc := 37) C 94 dX7_leastLaw_37 (by decide) (nI_le (by omega) (by omega)) ?_
          refine z_iload_n (pc := 94) C dX7_leastLaw_94 rfl ?_
          refine z_if_ne (pc := 95) C 102 dX7_leastLaw_95 (by decide) (fun c_95 => ?_) (fun c_95 => ?_)
          · 
            refine z_iload (pc := 102) C dX7_leastLaw_102 rfl ?_
            exact z_iret (pc := 104) C ρ dX7_leastLaw_104 (⟨_, rfl, by simp only [r_leastLaw, if_pos hb_4, if_pos hb_13, hcl, ← hq3, if_neg c_95, hb, hle], rfl, hm, hfr⟩)
          · 
            refine z_iload_n (pc := 98) C dX7_leastLaw_98 rfl ?_
            refine z_goto (pc := 99) C 104 dX7_leastLaw_99 (by decide) ?_
            exact z_iret (pc := 104) C ρ dX7_leastLaw_104 (⟨_, rfl, by simp only [r_leastLaw, if_pos hb_4, if_pos hb_13, hcl, ← hq3, if_pos c_95, hb, hle], rfl, hm, hfr⟩)
        | succ r ih =>
          intro q im' b le y6 hq hb hle hm hfr h6 hMM
          refine z_iload (pc := 34) C dX7_leastLaw_34 rfl ?_
          refine z_iconstN (pc := 36) C 3 dX7_leastLaw_36 ?_
          refine z_icmp_geF (pc := 37) C 94 dX7_leastLaw_37 (by decide) (nI_ge (by omega) (by omega)) ?_
          refine z_aload_n (pc := 40) C dX7_leastLaw_40 rfl ?_
          refine gX7_9 (pc := 41) C dX7_leastLaw_41 (ml_K hM) (ml_r0 hM) ?_
          refine z_iconstN (pc := 44) C 3 dX7_leastLaw_44 ?_
          refine z_iload (pc := 45) C dX7_leastLaw_45 rfl ?_
          refine z_iast (pc := 47) C dX7_leastLaw_47 (ml_a1 hM) (ml_n1 hM) (by decide) (by decide) ?_
          refine z_aload_n (pc := 48) C dX7_leastLaw_48 rfl ?_
          refine z_iload_n (pc := 49) C dX7_leastLaw_49 rfl ?_
          refine kX7_192 (pc := 50) C dX7_leastLaw_50 (m7_walkedBehind κ.2.1 E S _ M hM n n7 f (upd f 3 (nI q)) (by rw [up2_s, hm]) (sam.upd (by decide) (by decide) (by decide)) hok (fun j hj => by rw [up2_n _ _ _ (by omega)]; exact h6 j hj) (-1) (by rw [up2_n _ _ _ (by omega), hMM]; exact hidle) x0 (by omega)) (ml_K hM) (by decide) (Nat.le_of_ble_eq_true rfl) (Nat.le_refl _) (Nat.le_refl _) (fun v_50 S_50 im_50 h_50 => ?_)
          obtain ⟨rfl, rfl, hm2, hi2, hfr2⟩ := h_50
          have hk2 : im_50 M = im M := by rw [hi2, up2_n _ _ _ (by omega), hMM, idle_eq hidle]
          have hfr3 : frP M im im_50 := fun a q1 q2 q3 q4 q5 q6 q7 q8 => by
            by_cases e : a = M
            · subst e; exact hk2
            · rw [hfr2 a e q1 q2 q3 q7 q8, up2_n _ _ _ q1]; exact hfr a q1 q2 q3 q4 q5 q6 q7 q8
          have h62 : ∀ j, j < 78 → im_50 (M + 6) j = f j := fun j hj => by rw [hfr2 _ (by omega) (by omega) (by omega) (by omega) (by omega) (by omega), up2_n _ _ _ (by omega)]; exact h6 j hj
          refine z_eqi (y := w_law f n n7 x0 q) (rfl) ?_
          refine z_istore (pc := 53) C dX7_leastLaw_53 (by decide) rfl ?_
          refine z_iload_n (pc := 55) C dX7_leastLaw_55 rfl ?_
          have j_72 : ∀ b2 : Int32, b2 = (if b < 0 then nI q else if le ≤ w_law f n n7 x0 q then b else nI q) → V E κ 7 0 0 72 [some (.ref M), some (.int (nI x0)), some (.int w), some (.int b), some (.int le), some (.int (nI q)), some (.int (w_law f n n7 x0 q))] [.int b2] S im_50 := by
            intro b2 eb2
            refine z_istore_n (pc := 72) C dX7_leastLaw_72 (by decide) rfl ?_
            refine z_iload_n (pc := 73) C dX7_leastLaw_73 rfl ?_
            refine z_iload (pc := 74) C dX7_leastLaw_74 rfl ?_
            have j_86 : ∀ le2 : Int32, le2 = (if b2 = nI q then w_law f n n7 x0 q else le) → V E κ 7 0 0 86 [some (.ref M), some (.int (nI x0)), some (.int w), some (.int b2), some (.int le), some (.int (nI q)), some (.int (w_law f n n7 x0 q))] [.int le2] S im_50 := by
              intro le2 ele2
              refine z_istore (pc := 86) C dX7_leastLaw_86 (by decide) rfl ?_
              refine z_iincN (pc := 88) C 1 dX7_leastLaw_88 rfl (by decide) rfl ?_
              refine z_goto (pc := 91) C 34 dX7_leastLaw_91 (by decide) ?_
              exact ih (q + 1) im_50 _ _ _ (by omega) (by rw [s_min_s, ← hb, ← hle]; exact eb2) (by rw [s_min_s, ← hb, ← hle, ← eb2]; exact ele2) hm2 hfr3 h62 hk2
            refine z_icmp_ne (pc := 76) C 84 dX7_leastLaw_76 (by decide) (fun c_76 => ?_) (fun c_76 => ?_)
            · 
              refine z_iload (pc := 84) C dX7_leastLaw_84 rfl ?_
              exact j_86 _ (by simp only [if_neg c_76])
            · 
              refine z_iload (pc := 79) C dX7_leastLaw_79 rfl ?_
              refine z_goto (pc := 81) C 86 dX7_leastLaw_81 (by decide) ?_
              exact j_86 _ (by simp only [if_pos c_76])
          refine z_if_lt (pc := 56) C 66 dX7_leastLaw_56 (by decide) (fun c_56 => ?_) (fun c_56 => ?_)
          · 
            refine z_iload (pc := 66) C dX7_leastLaw_66 rfl ?_
            refine z_goto (pc := 68) C 72 dX7_leastLaw_68 (by decide) ?_
            exact j_72 _ (by simp only [if_pos c_56])
          · 
            refine z_iload (pc := 59) C dX7_leastLaw_59 rfl ?_
            refine z_iload (pc := 61) C dX7_leastLaw_61 rfl ?_
            refine z_icmp_ge (pc := 63) C 71 dX7_leastLaw_63 (by decide) (fun c_63 => ?_) (fun c_63 => ?_)
            · 
              refine z_iload_n (pc := 71) C dX7_leastLaw_71 rfl ?_
              exact j_72 _ (by simp only [if_neg c_56, if_pos c_63])
            · 
              refine z_iload (pc := 66) C dX7_leastLaw_66 rfl ?_
              refine z_goto (pc := 68) C 72 dX7_leastLaw_68 (by decide) ?_
              exact j_72 _ (by simp only [if_neg c_56, if_neg c_63])
      refine z_iconst (v := -1) (pc := 26) C dX7_leastLaw_26 (by decide) ?_
      refine z_istore_n (pc := 27) C dX7_leastLaw_27 (by decide) rfl ?_
      refine z_iconstN (pc := 28) C 0 dX7_leastLaw_28 ?_
      refine z_istore (pc := 29) C dX7_leastLaw_29 (by decide) rfl ?_
      refine z_iconstN (pc := 31) C 0 dX7_leastLaw_31 ?_
      refine z_istore (pc := 32) C dX7_leastLaw_32 (by decide) rfl ?_
      exact loop 3 0 im_23 _ _ _ (by omega) rfl rfl hf1 (frP.of_ne hth2) hth (hth2 _ (by omega))
    · 
      refine z_if_neF (pc := 16) C 22 dX7_leastLaw_16 (by decide) (by decide) ?_
      refine z_ldc (pc := 19) C dX7_leastLaw_19 wk_X7_100 ?_
      exact z_iret (pc := 21) C ρ dX7_leastLaw_21 (⟨_, rfl, by simp only [r_leastLaw, if_pos hb_4, if_neg hb_13], rfl, hf0, frP.rf⟩)
  · 
    refine z_if_eqT (pc := 7) C 19 dX7_leastLaw_7 (by decide) (by decide) ?_
    refine z_ldc (pc := 19) C dX7_leastLaw_19 wk_X7_100 ?_
    exact z_iret (pc := 21) C ρ dX7_leastLaw_21 (⟨_, rfl, by simp only [r_leastLaw, if_neg hb_4], rfl, hf0, frP.rf⟩)
set_option maxRecDepth 100000 in
set_option maxHeartbeats 4000000 in
theorem m7_spared (l : Launch) (E : Ex) (S : Sx) (im : Mem) (M : Nat) (hM : ML S M) (n n7 : Nat) (f : Nat → Int32) (hf0 : im (M + 1) = f) (hok : MOk f n n7) (hidle : im M 4 = -1) (x w : Int32) : Mt l E yX7_spared cX7_spared 7 (some .int) 8 0 0 [.ref M, .int x, .int w] S im (pI (pP S im M (r_spared f n n7 x w) (f))) := by
  refine Mt.of (by decide +kernel) rfl rfl (Nat.le_of_ble_eq_true rfl) ?_
  intro κ hκ C ρ
  subst hκ
  show V E κ 7 0 0 0 [some (.ref M), some (.int x), some (.int w), none, none, none, none] [] S im
  have hn10 := hok.1.1
  refine z_iload_n (pc := 0) C dX7_spared_0 rfl ?_
  refine z_iconstN (pc := 1) C 1 dX7_spared_1 ?_
  refine z_bipushN (pc := 2) C 60 (by decide) dX7_spared_2 ?_
  refine kX7_92 (pc := 4) C dX7_spared_4 (m7_in κ.2.1 E S im (x) (nI 1) (nI 60)) (by decide) (Nat.le_of_ble_eq_true rfl) (Nat.le_refl _) (Nat.le_refl _) (fun v_4 S_4 im_4 h_4 => ?_)
  rcases h_4 with ⟨hb_4, rfl, rfl, rfl⟩ | ⟨hb_4, rfl, rfl, rfl⟩
  · 
    obtain ⟨x0, hx00, hx0, rfl⟩ := (rng (by decide) (by decide)).mp hb_4
    have hcl : (nI x0).toNatClampNeg = x0 := nI_clamp (by omega)
    refine z_if_eqF (pc := 7) C 19 dX7_spared_7 (by decide) (by decide) ?_
    refine z_iload_n (pc := 10) C dX7_spared_10 rfl ?_
    refine z_iconstN (pc := 11) C 0 dX7_spared_11 ?_
    refine z_iconstN (pc := 12) C 1 dX7_spared_12 ?_
    refine kX7_92 (pc := 13) C dX7_spared_13 (m7_in κ.2.1 E S im (w) (nI 0) (nI 1)) (by decide) (Nat.le_of_ble_eq_true rfl) (Nat.le_refl _) (Nat.le_refl _) (fun v_13 S_13 im_13 h_13 => ?_)
    rcases h_13 with ⟨hb_13, rfl, rfl, rfl⟩ | ⟨hb_13, rfl, rfl, rfl⟩
    · 
      refine z_if_neT (pc := 16) C 22 dX7_spared_16 (by decide) (by decide) ?_
      refine z_aload_n (pc := 22) C dX7_spared_22 rfl ?_
      refine kX7_173 (pc := 23) C dX7_spared_23 (m7_thinks κ.2.1 E S im M hM) (ml_K hM) (by decide) (Nat.le_of_ble_eq_true rfl) (Nat.le_refl _) (Nat.le_refl _) (fun S_23 im_23 h_23 => ?_)
      obtain ⟨rfl, hth, hth2⟩ := h_23
      rw [hf0] at hth
      have hf1 : im_23 (M + 1) = f := by rw [hth2 _ (by omega)]; exact hf0
      have hi1 : im_23 M 4 = -1 := by rw [hth2 _ (by omega)]; exact hidle
      have loop : ∀ (r q : Nat) (im' : Mem) (b le : Int32) (y6 : Option Value), q + r = n → b = (s_min (w_spared f n n7 x0) q).1 → le = (s_min (w_spared f n n7 x0) q).2 → im' (M + 1) = f → frP M im im' → (∀ j, j < 78 → im' (M + 6) j = f j) → im' M = im M → V E κ 7 0 0 34 [some (.ref M), some (.int (nI x0)), some (.int w), some (.int b), some (.int le), some (.int (nI q)), y6] [] S im' := by
        intro r
        induction r with
        | zero =>
          intro q im' b le y6 hq hb hle hm hfr h6 hMM
          have hqn : q = n := by omega
          refine z_iload (pc := 34) C dX7_spared_34 rfl ?_
          refine z_aload_n (pc := 36) C dX7_spared_36 rfl ?_
          refine gX7_9 (pc := 37) C dX7_spared_37 (ml_K hM) (ml_r0 hM) ?_
          refine z_iconstN (pc := 40) C 1 dX7_spared_40 ?_
          refine z_iald (pc := 41) C dX7_spared_41 (ml_a1 hM) (ml_n1 hM) (by omega) (by decide) ?_
          refine z_eqi (y := nI n) (by rw [hm]; exact hok.1.2) ?_
          refine z_icmp_geT (pc := 42) C 97 dX7_spared_42 (by decide) (nI_le (by omega) (by omega)) ?_
          refine z_iload_n (pc := 97) C dX7_spared_97 rfl ?_
          refine z_if_ge (pc := 98) C 106 dX7_spared_98 (by decide) (fun c_98 => ?_) (fun c_98 => ?_)
          · 
            refine z_iload_n (pc := 106) C dX7_spared_106 rfl ?_
            refine z_if_ne (pc := 107) C 114 dX7_spared_107 (by decide) (fun c_107 => ?_) (fun c_107 => ?_)
            · 
              refine z_iload (pc := 114) C dX7_spared_114 rfl ?_
              exact z_iret (pc := 116) C ρ dX7_spared_116 (⟨_, rfl, by rw [hqn] at hb hle; rw [hb] at c_98; simp only [r_spared, if_pos hb_4, if_pos hb_13, hcl, if_pos c_98, if_neg c_107, hb, hle], rfl, hm, hfr⟩)
            · 
              refine z_iload_n (pc := 110) C dX7_spared_110 rfl ?_
              refine z_goto (pc := 111) C 116 dX7_spared_111 (by decide) ?_
              exact z_iret (pc := 116) C ρ dX7_spared_116 (⟨_, rfl, by rw [hqn] at hb hle; rw [hb] at c_98; simp only [r_spared, if_pos hb_4, if_pos hb_13, hcl, if_pos c_98, if_pos c_107, hb, hle], rfl, hm, hfr⟩)
          · 
            refine z_ldc (pc := 101) C dX7_spared_101 wk_X7_91 ?_
            refine z_goto (pc := 103) C 116 dX7_spared_103 (by decide) ?_
            exact z_iret (pc := 116) C ρ dX7_spared_116 (⟨_, rfl, by rw [hqn] at hb hle; rw [hb] at c_98; simp only [r_spared, if_pos hb_4, if_pos hb_13, hcl, if_neg c_98, hb, hle], rfl, hm, hfr⟩)
        | succ r ih =>
          intro q im' b le y6 hq hb hle hm hfr h6 hMM
          refine z_iload (pc := 34) C dX7_spared_34 rfl ?_
          refine z_aload_n (pc := 36) C dX7_spared_36 rfl ?_
          refine gX7_9 (pc := 37) C dX7_spared_37 (ml_K hM) (ml_r0 hM) ?_
          refine z_iconstN (pc := 40) C 1 dX7_spared_40 ?_
          refine z_iald (pc := 41) C dX7_spared_41 (ml_a1 hM) (ml_n1 hM) (by omega) (by decide) ?_
          refine z_eqi (y := nI n) (by rw [hm]; exact hok.1.2) ?_
          refine z_icmp_geF (pc := 42) C 97 dX7_spared_42 (by decide) (nI_ge (by omega) (by omega)) ?_
          refine z_aload_n (pc := 45) C dX7_spared_45 rfl ?_
          refine z_iload (pc := 46) C dX7_spared_46 rfl ?_
          refine pX7_19 (pc := 48) C dX7_spared_48 (ml_K hM) ?_
          refine z_aload_n (pc := 51) C dX7_spared_51 rfl ?_
          refine z_iload_n (pc := 52) C dX7_spared_52 rfl ?_
          refine kX7_192 (pc := 53) C dX7_spared_53 (m7_walkedBehind κ.2.1 E S _ M hM n n7 f f (by rw [up2_n _ _ _ (by omega)]; exact hm) sam.rf hok (fun j hj => by rw [up2_n _ _ _ (by omega)]; exact h6 j hj) (nI q) (by rw [up2_s, upd_s]) x0 (by omega)) (ml_K hM) (by decide) (Nat.le_of_ble_eq_true rfl) (Nat.le_refl _) (Nat.le_refl _) (fun v_53 S_53 im_53 h_53 => ?_)
          obtain ⟨rfl, rfl, hm2, hi2, hfr2⟩ := h_53
          have hk2 : im_53 M = im M := by
            rw [hi2, up2_s, hMM]
            funext j
            by_cases e : j = 4
            · subst e; rw [upd_s, hidle]
            · rw [upd_n _ _ e, upd_n _ _ e]
          have hfr3 : frP M im im_53 := fun a q1 q2 q3 q4 q5 q6 q7 q8 => by
            by_cases e : a = M
            · subst e; exact hk2
            · rw [hfr2 a e q1 q2 q3 q7 q8, up2_n _ _ _ e]; exact hfr a q1 q2 q3 q4 q5 q6 q7 q8
          have h62 : ∀ j, j < 78 → im_53 (M + 6) j = f j := fun j hj => by rw [hfr2 _ (by omega) (by omega) (by omega) (by omega) (by omega) (by omega), up2_n _ _ _ (by omega)]; exact h6 j hj
          refine z_eqi (y := w_spared f n n7 x0 q) (rfl) ?_
          refine z_istore (pc := 56) C dX7_spared_56 (by decide) rfl ?_
          refine z_iload_n (pc := 58) C dX7_spared_58 rfl ?_
          have j_75 : ∀ b2 : Int32, b2 = (if b < 0 then nI q else if le ≤ w_spared f n n7 x0 q then b else nI q) → V E κ 7 0 0 75 [some (.ref M), some (.int (nI x0)), some (.int w), some (.int b), some (.int le), some (.int (nI q)), some (.int (w_spared f n n7 x0 q))] [.int b2] S im_53 := by
            intro b2 eb2
            refine z_istore_n (pc := 75) C dX7_spared_75 (by decide) rfl ?_
            refine z_iload_n (pc := 76) C dX7_spared_76 rfl ?_
            refine z_iload (pc := 77) C dX7_spared_77 rfl ?_
            have j_89 : ∀ le2 : Int32, le2 = (if b2 = nI q then w_spared f n n7 x0 q else le) → V E κ 7 0 0 89 [some (.ref M), some (.int (nI x0)), some (.int w), some (.int b2), some (.int le), some (.int (nI q)), some (.int (w_spared f n n7 x0 q))] [.int le2] S im_53 := by
              intro le2 ele2
              refine z_istore (pc := 89) C dX7_spared_89 (by decide) rfl ?_
              refine z_iincN (pc := 91) C 1 dX7_spared_91 rfl (by decide) rfl ?_
              refine z_goto (pc := 94) C 34 dX7_spared_94 (by decide) ?_
              exact ih (q + 1) im_53 _ _ _ (by omega) (by rw [s_min_s, ← hb, ← hle]; exact eb2) (by rw [s_min_s, ← hb, ← hle, ← eb2]; exact ele2) hm2 hfr3 h62 hk2
            refine z_icmp_ne (pc := 79) C 87 dX7_spared_79 (by decide) (fun c_79 => ?_) (fun c_79 => ?_)
            · 
              refine z_iload (pc := 87) C dX7_spared_87 rfl ?_
              exact j_89 _ (by simp only [if_neg c_79])
            · 
              refine z_iload (pc := 82) C dX7_spared_82 rfl ?_
              refine z_goto (pc := 84) C 89 dX7_spared_84 (by decide) ?_
              exact j_89 _ (by simp only [if_pos c_79])
          refine z_if_lt (pc := 59) C 69 dX7_spared_59 (by decide) (fun c_59 => ?_) (fun c_59 => ?_)
          · 
            refine z_iload (pc := 69) C dX7_spared_69 rfl ?_
            refine z_goto (pc := 71) C 75 dX7_spared_71 (by decide) ?_
            exact j_75 _ (by simp only [if_pos c_59])
          · 
            refine z_iload (pc := 62) C dX7_spared_62 rfl ?_
            refine z_iload (pc := 64) C dX7_spared_64 rfl ?_
            refine z_icmp_ge (pc := 66) C 74 dX7_spared_66 (by decide) (fun c_66 => ?_) (fun c_66 => ?_)
            · 
              refine z_iload_n (pc := 74) C dX7_spared_74 rfl ?_
              exact j_75 _ (by simp only [if_neg c_59, if_pos c_66])
            · 
              refine z_iload (pc := 69) C dX7_spared_69 rfl ?_
              refine z_goto (pc := 71) C 75 dX7_spared_71 (by decide) ?_
              exact j_75 _ (by simp only [if_neg c_59, if_neg c_66])
      refine z_iconst (v := -1) (pc := 26) C dX7_spared_26 (by decide) ?_
      refine z_istore_n (pc := 27) C dX7_spared_27 (by decide) rfl ?_
      refine z_iconstN (pc := 28) C 0 dX7_spared_28 ?_
      refine z_istore (pc := 29) C dX7_spared_29 (by decide) rfl ?_
      refine z_iconstN (pc := 31) C 0 dX7_spared_31 ?_
      refine z_istore (pc := 32) C dX7_spared_32 (by decide) rfl ?_
      exact loop n 0 im_23 _ _ _ (by omega) rfl rfl hf1 (frP.of_ne hth2) hth (hth2 _ (by omega))
    · 
      refine z_if_neF (pc := 16) C 22 dX7_spared_16 (by decide) (by decide) ?_
      refine z_ldc (pc := 19) C dX7_spared_19 wk_X7_100 ?_
      exact z_iret (pc := 21) C ρ dX7_spared_21 (⟨_, rfl, by simp only [r_spared, if_pos hb_4, if_neg hb_13], rfl, hf0, frP.rf⟩)
  · 
    refine z_if_eqT (pc := 7) C 19 dX7_spared_7 (by decide) (by decide) ?_
    refine z_ldc (pc := 19) C dX7_spared_19 wk_X7_100 ?_
    exact z_iret (pc := 21) C ρ dX7_spared_21 (⟨_, rfl, by simp only [r_spared, if_neg hb_4], rfl, hf0, frP.rf⟩)
