/-! the reference: what will be, second half -/
def r_behind (f : Nat → Int32) (n n7 : Nat) (x w : Int32) : Int32 := if nI 0 ≤ x ∧ x ≤ nI 100 then (if nI 0 ≤ w ∧ w ≤ nI 3 then (if w = nI 3 then s_told0 (s_firstN (s_nights f n n7 (-1) x.toNatClampNeg) n) else r_street (s_nights f n n7 (-1) x.toNatClampNeg) n w) else -1000000001) else -1000000001
/-- nothing but rows used within a call: what a thought leaves behind -/
def frT (M : Nat) (im im' : Mem) : Prop := frP M im im' ∧ im' (M + 1) = im (M + 1)
theorem frP.of_ne {M : Nat} {im im' : Mem} (h : ∀ a, a ≠ M + 6 → im' a = im a) : frP M im im' := fun a _ _ _ x4 _ _ _ _ => h a x4
/-- behind thinks, nights and putsBack -/
theorem thought {S : Sx} {M : Nat} {im im1 im2 im3 : Mem} {f g : Nat → Int32} (hf0 : im (M + 1) = f) (hidle : im M 4 = -1) (h1 : ∀ j, j < 78 → im1 (M + 6) j = im (M + 1) j) (h2 : frP M im im2) (h6 : im2 (M + 6) = im1 (M + 6)) (hg : im2 (M + 1) = g) (hs : sam f g) (hM4 : ∀ j, j ≠ 4 → im2 M j = im M j) (h3 : ∀ j, im3 (M + 1) j = if j < 78 then im2 (M + 6) j else im2 (M + 1) j) (h4 : im3 M = upd (im2 M) 4 (-1)) (h5 : ∀ a, a ≠ M → a ≠ M + 1 → im3 a = im2 a) : im3 (M + 1) = f ∧ frP M im im3 := by
  refine ⟨back_eq (b := im1 (M + 6)) hs (fun j hj => ?_) (fun j => ?_), fun a q1 q2 q3 q4 q5 q6 q7 q8 => ?_⟩
  · rw [h1 j hj, hf0]
  · rw [h3 j, h6, hg]
  · by_cases e : a = M
    · subst e
      rw [h4]
      funext j
      by_cases e4 : j = 4
      · subst e4; rw [upd_s, hidle]
      · rw [upd_n _ _ e4]; exact hM4 j e4
    · rw [h5 a e q1]; exact h2 a q1 q2 q3 q4 q5 q6 q7 q8
set_option maxRecDepth 100000 in
set_option maxHeartbeats 4000000 in
theorem m7_behind (l : Launch) (E : Ex) (S : Sx) (im : Mem) (M : Nat) (hM : ML S M) (n n7 : Nat) (f : Nat → Int32) (hf0 : im (M + 1) = f) (hok : MOk f n n7) (hidle : im M 4 = -1) (x w : Int32) : Mt l E yX7_behind cX7_behind 4 (some .int) 7 0 0 [.ref M, .int x, .int w] S im (pI (pP S im M (r_behind f n n7 x w) (f))) := by
  refine Mt.of (by decide +kernel) rfl rfl (Nat.le_of_ble_eq_true rfl) ?_
  intro κ hκ C ρ
  subst hκ
  show V E κ 4 0 0 0 [some (.ref M), some (.int x), some (.int w), none] [] S im
  refine z_iload_n (pc := 0) C dX7_behind_0 rfl ?_
  refine z_iconstN (pc := 1) C 0 dX7_behind_1 ?_
  refine z_bipushN (pc := 2) C 100 (by decide) dX7_behind_2 ?_
  refine kX7_92 (pc := 4) C dX7_behind_4 (m7_in κ.2.1 E S im (x) (nI 0) (nI 100)) (by decide) (Nat.le_of_ble_eq_true rfl) (Nat.le_refl _) (Nat.le_refl _) (fun v_4 S_4 im_4 h_4 => ?_)
  rcases h_4 with ⟨hb_4, rfl, rfl, rfl⟩ | ⟨hb_4, rfl, rfl, rfl⟩
  · 
    obtain ⟨x0, hx00, hx0, rfl⟩ := (rng (by decide) (by decide)).mp hb_4
    have hcl : (nI x0).toNatClampNeg = x0 := nI_clamp (by omega)
    refine z_if_eqF (pc := 7) C 19 dX7_behind_7 (by decide) (by decide) ?_
    refine z_iload_n (pc := 10) C dX7_behind_10 rfl ?_
    refine z_iconstN (pc := 11) C 0 dX7_behind_11 ?_
    refine z_iconstN (pc := 12) C 3 dX7_behind_12 ?_
    refine kX7_92 (pc := 13) C dX7_behind_13 (m7_in κ.2.1 E S im (w) (nI 0) (nI 3)) (by decide) (Nat.le_of_ble_eq_true rfl) (Nat.le_refl _) (Nat.le_refl _) (fun v_13 S_13 im_13 h_13 => ?_)
    rcases h_13 with ⟨hb_13, rfl, rfl, rfl⟩ | ⟨hb_13, rfl, rfl, rfl⟩
    · 
      refine z_if_neT (pc := 16) C 22 dX7_behind_16 (by decide) (by decide) ?_
      refine z_aload_n (pc := 22) C dX7_behind_22 rfl ?_
      refine kX7_173 (pc := 23) C dX7_behind_23 (m7_thinks κ.2.1 E S im M hM) (ml_K hM) (by decide) (Nat.le_of_ble_eq_true rfl) (Nat.le_refl _) (Nat.le_refl _) (fun S_23 im_23 h_23 => ?_)
      obtain ⟨rfl, hth, hth2⟩ := h_23
      have hf1 : im_23 (M + 1) = f := by rw [hth2 _ (by omega)]; exact hf0
      have hi1 : im_23 M 4 = -1 := by rw [hth2 _ (by omega)]; exact hidle
      refine z_aload_n (pc := 26) C dX7_behind_26 rfl ?_
      refine z_iload_n (pc := 27) C dX7_behind_27 rfl ?_
      refine kX7_166 (pc := 28) C dX7_behind_28 (m7_goesOn κ.2.1 E S im_23 M hM n n7 f hf1 hok (-1) hi1 x0 (by omega)) (ml_K hM) (by decide) (Nat.le_of_ble_eq_true rfl) (Nat.le_refl _) (Nat.le_refl _) (fun S_28 im_28 h_28 => ?_)
      obtain ⟨rfl, hm, hfr⟩ := h_28
      have hokg := hok.sam (sam_nights (n7 := n7) (idle := -1) hok.1.1 x0)
      have j51 : ∀ (r : Int32) (im' : Mem), r = (if w = nI 3 then s_told0 (s_firstN (s_nights f n n7 (-1) x0) n) else r_street (s_nights f n n7 (-1) x0) n w) → frO M im_28 im' → V E κ 4 0 0 51 [some (.ref M), some (.int (nI x0)), some (.int w), none] [.int r] S im' := by
        intro r im' er hfo
        refine z_istore_n (pc := 51) C dX7_behind_51 (by decide) rfl ?_
        refine z_aload_n (pc := 52) C dX7_behind_52 rfl ?_
        refine kX7_185 (pc := 53) C dX7_behind_53 (m7_putsBack κ.2.1 E S im' M hM) (ml_K hM) (by decide) (Nat.le_of_ble_eq_true rfl) (Nat.le_refl _) (Nat.le_refl _) (fun S_53 im_53 h_53 => ?_)
        obtain ⟨rfl, hb1, hb2, hb3⟩ := h_53
        have hq := thought (S := S) (im2 := im') hf0 hidle hth ((frP.of_ne hth2).tr (hfr.P.tr hfo.P)) (by rw [hfo _ (by omega) (by omega), hfr _ (by omega) (by omega) (by omega) (by omega) (by omega)]) (by rw [hfo _ (by omega) (by omega)]; exact hm) (sam_nights hok.1.1 x0) (fun j _ => by rw [hfo _ (by omega) (by omega), hfr _ (by omega) (by omega) (by omega) (by omega) (by omega), hth2 _ (by omega)]) hb1 hb2 hb3
        refine z_iload_n (pc := 56) C dX7_behind_56 rfl ?_
        exact z_iret (pc := 57) C ρ dX7_behind_57 (⟨_, rfl, by simp only [r_behind, if_pos hb_4, if_pos hb_13, hcl, er], rfl, hq.1, hq.2⟩)
      refine z_iload_n (pc := 31) C dX7_behind_31 rfl ?_
      refine z_iconstN (pc := 32) C 3 dX7_behind_32 ?_
      refine z_icmp_ne (pc := 33) C 46 dX7_behind_33 (by decide) (fun c_33 => ?_) (fun c_33 => ?_)
      · 
        refine z_aload_n (pc := 46) C dX7_behind_46 rfl ?_
        refine z_iload_n (pc := 47) C dX7_behind_47 rfl ?_
        refine kX7_182 (pc := 48) C dX7_behind_48 (m7_street κ.2.1 E S im_28 M hM n n7 _ hm hokg w) (ml_K hM) (by decide) (Nat.le_of_ble_eq_true rfl) (Nat.le_refl _) (Nat.le_refl _) (fun v_48 S_48 im_48 h_48 => ?_)
        obtain ⟨rfl, rfl, rfl⟩ := h_48
        first | exact j51 _ _ (if_pos c_33).symm hfo | exact j51 _ _ (if_neg c_33).symm (fun _ _ _ => rfl)
      · 
        refine z_aload_n (pc := 36) C dX7_behind_36 rfl ?_
        refine kX7_176 (pc := 37) C dX7_behind_37 (m7_firstNow κ.2.1 E S im_28 M hM n n7 _ hm hokg) (ml_K hM) (by decide) (Nat.le_of_ble_eq_true rfl) (Nat.le_refl _) (Nat.le_refl _) (fun v_37 S_37 im_37 h_37 => ?_)
        obtain ⟨rfl, rfl, hfo⟩ := h_37
        refine kX7_179 (pc := 40) C dX7_behind_40 (m7_told0 κ.2.1 E S im_37 (s_firstN (s_nights f n n7 (-1) x0) n)) (by decide) (Nat.le_of_ble_eq_true rfl) (Nat.le_refl _) (Nat.le_refl _) (fun v_40 S_40 im_40 h_40 => ?_)
        obtain ⟨rfl, rfl, rfl⟩ := h_40
        refine z_goto (pc := 43) C 51 dX7_behind_43 (by decide) ?_
        first | exact j51 _ _ (if_pos c_33).symm hfo | exact j51 _ _ (if_neg c_33).symm (fun _ _ _ => rfl)
    · 
      refine z_if_neF (pc := 16) C 22 dX7_behind_16 (by decide) (by decide) ?_
      refine z_ldc (pc := 19) C dX7_behind_19 wk_X7_100 ?_
      exact z_iret (pc := 21) C ρ dX7_behind_21 (⟨_, rfl, by simp only [r_behind, if_pos hb_4, if_neg hb_13], rfl, hf0, frP.rf⟩)
  · 
    refine z_if_eqT (pc := 7) C 19 dX7_behind_7 (by decide) (by decide) ?_
    refine z_ldc (pc := 19) C dX7_behind_19 wk_X7_100 ?_
    exact z_iret (pc := 21) C ρ dX7_behind_21 (⟨_, rfl, by simp only [r_behind, if_neg hb_4], rfl, hf0, frP.rf⟩)
/-- two orders are the same -/
def sameO (f g : Nat → Int32) (n : Nat) : Nat → Bool
  | 0 => true
  | k + 1 => sameO f g n k && decide (ordA g n k = ordA f n k)
theorem sameO_at {f g : Nat → Int32} {n : Nat} : ∀ k, sameO f g n k = true ↔ ∀ i, i < k → ordA g n i = ordA f n i := by
  intro k
  induction k with
  | zero => simp [sameO]
  | succ k ih =>
    rw [sameO, Bool.and_eq_true, ih, decide_eq_true_eq]
    constructor
    · rintro ⟨h1, h2⟩ i hi
      by_cases e : i = k
      · subst e; exact h2
      · exact h1 i (by omega)
    · intro h
      exact ⟨fun i hi => h i (by omega), h k (by omega)⟩
set_option maxRecDepth 100000 in
set_option maxHeartbeats 4000000 in
theorem m7_isAsFirst (l : Launch) (E : Ex) (S : Sx) (im : Mem) (M : Nat) (hM : ML S M) (n n7 : Nat) (f : Nat → Int32) (hf0 : im (M + 1) = f) (hok : MOk f n n7) (f0 : Nat → Int32) (hfirst : ∀ i, i < n → im (M + 7) i = nI (ordA f0 n i)) : Mt l E yX7_isAsFirst cX7_isAsFirst 2 (some .boolean) 4 0 0 [.ref M] S im (pI (fun v S' im' => ((sameO f0 f n n = true ∧ nI 1 = v) ∨ (sameO f0 f n n = false ∧ nI 0 = v)) ∧ S = S' ∧ frO M im im')) := by
  refine Mt.of (by decide +kernel) rfl rfl (Nat.le_of_ble_eq_true rfl) ?_
  intro κ hκ C ρ
  subst hκ
  show V E κ 2 0 0 0 [some (.ref M), none] [] S im
  have hn10 := hok.1.1
  refine z_aload_n (pc := 0) C dX7_isAsFirst_0 rfl ?_
  refine kX7_153 (pc := 1) C dX7_isAsFirst_1 (m7_findOrder κ.2.1 E S im M hM n n7 (by rw [hf0]; exact hok)) (ml_K hM) (by decide) (Nat.le_of_ble_eq_true rfl) (Nat.le_refl _) (Nat.le_refl _) (fun S_1 im_1 h_1 => ?_)
  obtain ⟨rfl, hrow, hfr⟩ := h_1
  rw [hf0] at hrow
  have hm : im_1 (M + 1) = f := by rw [hfr _ (by omega) (by omega)]; exact hf0
  generalize im_1 = im' at hrow hm hfr ⊢
  have loop : ∀ (r i : Nat), i + r = n → (∀ j, j < i → ordA f n j = ordA f0 n j) → V E κ 2 0 0 6 [some (.ref M), some (.int (nI i))] [] S im' := by
    intro r
    induction r with
    | zero =>
      intro i hi hall
      refine z_iload_n (pc := 6) C dX7_isAsFirst_6 rfl ?_
      refine z_aload_n (pc := 7) C dX7_isAsFirst_7 rfl ?_
      refine gX7_9 (pc := 8) C dX7_isAsFirst_8 (ml_K hM) (ml_r0 hM) ?_
      refine z_iconstN (pc := 11) C 1 dX7_isAsFirst_11 ?_
      refine z_iald (pc := 12) C dX7_isAsFirst_12 (ml_a1 hM) (ml_n1 hM) (by omega) (by decide) ?_
      refine z_eqi (y := nI n) (by rw [hm]; exact hok.1.2) ?_
      refine z_icmp_geT (pc := 13) C 39 dX7_isAsFirst_13 (by decide) (nI_le (by omega) (by omega)) ?_
      refine z_iconstN (pc := 39) C 1 dX7_isAsFirst_39 ?_
      exact z_zret (pc := 40) C ρ dX7_isAsFirst_40 (by decide) (⟨_, rfl, Or.inl ⟨(sameO_at n).mpr (fun j hj => hall j (by omega)), rfl⟩, rfl, hfr⟩)
    | succ r ih =>
      intro i hi hall
      have hp1 : ordA f n i < n := ordA_lt (by omega)
      have hp2 : ordA f0 n i < n := ordA_lt (by omega)
      refine z_iload_n (pc := 6) C dX7_isAsFirst_6 rfl ?_
      refine z_aload_n (pc := 7) C dX7_isAsFirst_7 rfl ?_
      refine gX7_9 (pc := 8) C dX7_isAsFirst_8 (ml_K hM) (ml_r0 hM) ?_
      refine z_iconstN (pc := 11) C 1 dX7_isAsFirst_11 ?_
      refine z_iald (pc := 12) C dX7_isAsFirst_12 (ml_a1 hM) (ml_n1 hM) (by omega) (by decide) ?_
      refine z_eqi (y := nI n) (by rw [hm]; exact hok.1.2) ?_
      refine z_icmp_geF (pc := 13) C 39 dX7_isAsFirst_13 (by decide) (nI_ge (by omega) (by omega)) ?_
      refine z_aload_n (pc := 16) C dX7_isAsFirst_16 rfl ?_
      refine gX7_23 (pc := 17) C dX7_isAsFirst_17 (ml_K hM) (ml_r5 hM) ?_
      refine z_iload_n (pc := 20) C dX7_isAsFirst_20 rfl ?_
      refine z_iald (pc := 21) C dX7_isAsFirst_21 (ml_a4 hM) (ml_n4 hM) (by omega) (by decide) ?_
      refine z_eqi (y := nI (ordA f n i)) (hrow i (by omega)) ?_
      refine z_aload_n (pc := 22) C dX7_isAsFirst_22 rfl ?_
      refine gX7_33 (pc := 23) C dX7_isAsFirst_23 (ml_K hM) (ml_r8 hM) ?_
      refine z_iload_n (pc := 26) C dX7_isAsFirst_26 rfl ?_
      refine z_iald (pc := 27) C dX7_isAsFirst_27 (ml_a7 hM) (ml_n7 hM) (by omega) (by decide) ?_
      refine z_eqi (y := nI (ordA f0 n i)) (by rw [hfr _ (by omega) (by omega)]; exact hfirst i (by omega)) ?_
      refine z_icmp_eqN (pc := 28) C 33 dX7_isAsFirst_28 (by decide) (by omega) (by omega) (fun c_28 => ?_) (fun c_28 => ?_)
      · 
        refine z_iincN (pc := 33) C 1 dX7_isAsFirst_33 rfl (by decide) rfl ?_
        refine z_goto (pc := 36) C 6 dX7_isAsFirst_36 (by decide) ?_
        exact ih (i + 1) (by omega) (fun j hj => by
          by_cases e : j = i
          · subst e; exact c_28
          · exact hall j (by omega))
      · 
        refine z_iconstN (pc := 31) C 0 dX7_isAsFirst_31 ?_
        exact z_zret (pc := 32) C ρ dX7_isAsFirst_32 (by decide) (⟨_, rfl, Or.inr ⟨by cases h9 : sameO f0 f n n with | false => rfl | true => exact absurd ((sameO_at n).mp h9 i (by omega)) c_28, rfl⟩, rfl, hfr⟩)
  refine z_iconstN (pc := 4) C 0 dX7_isAsFirst_4 ?_
  refine z_istore_n (pc := 5) C dX7_isAsFirst_5 (by decide) rfl ?_
  exact loop n 0 (by omega) (fun j h => absurd h (Nat.not_lt_zero _))
def s_rnd (f : Nat → Int32) (n n7 : Nat) : Nat → Nat → Int32
  | 0, _ => -1000000005
  | r + 1, k => if sameO f (s_nights f n n7 (-1) k) n n = true then nI k else s_rnd f n n7 r (k + 1)
set_option maxRecDepth 100000 in
set_option maxHeartbeats 4000000 in
theorem m7_round (l : Launch) (E : Ex) (S : Sx) (im : Mem) (M : Nat) (hM : ML S M) (n n7 : Nat) (f : Nat → Int32) (hf0 : im (M + 1) = f) (hok : MOk f n n7) (hidle : im M 4 = -1)  : Mt l E yX7_round cX7_round 2 (some .int) 6 0 0 [.ref M] S im (pI (pP S im M (s_rnd f n n7 200 1) (f))) := by
  refine Mt.of (by decide +kernel) rfl rfl (Nat.le_of_ble_eq_true rfl) ?_
  intro κ hκ C ρ
  subst hκ
  show V E κ 2 0 0 0 [some (.ref M), none] [] S im
  have hn10 := hok.1.1
  refine z_aload_n (pc := 0) C dX7_round_0 rfl ?_
  refine kX7_173 (pc := 1) C dX7_round_1 (m7_thinks κ.2.1 E S im M hM) (ml_K hM) (by decide) (Nat.le_of_ble_eq_true rfl) (Nat.le_refl _) (Nat.le_refl _) (fun S_1 im_1 h_1 => ?_)
  obtain ⟨rfl, hth, hth2⟩ := h_1
  have hf1 : im_1 (M + 1) = f := by rw [hth2 _ (by omega)]; exact hf0
  have hi1 : im_1 M 4 = -1 := by rw [hth2 _ (by omega)]; exact hidle
  have loop : ∀ (r k : Nat) (im' : Mem), k + r = 201 → s_rnd f n n7 r k = s_rnd f n n7 200 1 → im' (M + 1) = s_nights f n n7 (-1) k → frP M im im' → im' (M + 6) = im_1 (M + 6) → (∀ j, j ≠ 4 → im' M j = im M j) → im' M 4 = -1 → (∀ i, i < n → im' (M + 7) i = nI (ordA f n i)) → V E κ 2 0 0 40 [some (.ref M), some (.int (nI k))] [] S im' := by
    intro r
    induction r with
    | zero =>
      intro k im' hk hans hm hfr h6 hM4 hi4 h7
      refine z_iload_n (pc := 40) C dX7_round_40 rfl ?_
      refine z_sipush (v := nI 200) (pc := 41) C dX7_round_41 (by decide +kernel) ?_
      refine z_icmp_gtT (pc := 44) C 64 dX7_round_44 (by decide) (nI_lt (by omega) (by omega)) ?_
      refine z_aload_n (pc := 64) C dX7_round_64 rfl ?_
      refine kX7_185 (pc := 65) C dX7_round_65 (m7_putsBack κ.2.1 E S im' M hM) (ml_K hM) (by decide) (Nat.le_of_ble_eq_true rfl) (Nat.le_refl _) (Nat.le_refl _) (fun S_65 im_65 h_65 => ?_)
      obtain ⟨rfl, hb1, hb2, hb3⟩ := h_65
      have hq := thought (S := S) (im2 := im') hf0 hidle hth hfr h6 hm (sam_nights hok.1.1 k) hM4 hb1 hb2 hb3
      refine z_iload_n (pc := 68) C dX7_round_68 rfl ?_
      refine z_sipush (v := nI 200) (pc := 69) C dX7_round_69 (by decide +kernel) ?_
      refine z_icmp_gtT (pc := 72) C 79 dX7_round_72 (by decide) (nI_lt (by omega) (by omega)) ?_
      refine z_ldc (pc := 79) C dX7_round_79 wk_X7_91 ?_
      exact z_iret (pc := 81) C ρ dX7_round_81 (⟨_, rfl, by rw [← hans]; rfl, rfl, hq.1, hq.2⟩)
    | succ r ih =>
      intro k im' hk hans hm hfr h6 hM4 hi4 h7
      refine z_iload_n (pc := 40) C dX7_round_40 rfl ?_
      refine z_sipush (v := nI 200) (pc := 41) C dX7_round_41 (by decide +kernel) ?_
      refine z_icmp_gtF (pc := 44) C 64 dX7_round_44 (by decide) (nI_nlt (by omega) (by decide)) ?_
      refine z_aload_n (pc := 47) C dX7_round_47 rfl ?_
      refine kX7_188 (pc := 48) C dX7_round_48 (m7_isAsFirst κ.2.1 E S im' M hM n n7 _ hm (hok.sam (sam_nights hok.1.1 k)) f h7) (ml_K hM) (by decide) (Nat.le_of_ble_eq_true rfl) (Nat.le_refl _) (Nat.le_refl _) (fun v_48 S_48 im_48 h_48 => ?_)
      obtain ⟨hs, rfl, hfo⟩ := h_48
      rcases hs with ⟨hs, rfl⟩ | ⟨hs, rfl⟩
      · refine z_if_neT (pc := 51) C 64 dX7_round_51 (by decide) (by decide) ?_
        refine z_aload_n (pc := 64) C dX7_round_64 rfl ?_
        refine kX7_185 (pc := 65) C dX7_round_65 (m7_putsBack κ.2.1 E S im_48 M hM) (ml_K hM) (by decide) (Nat.le_of_ble_eq_true rfl) (Nat.le_refl _) (Nat.le_refl _) (fun S_65 im_65 h_65 => ?_)
        obtain ⟨rfl, hb1, hb2, hb3⟩ := h_65
        have hq := thought (S := S) (im2 := im_48) hf0 hidle hth (hfr.tr hfo.P) (by rw [hfo _ (by omega) (by omega)]; exact h6) (by rw [hfo _ (by omega) (by omega)]; exact hm) (sam_nights hok.1.1 k) (fun j hj => by rw [hfo _ (by omega) (by omega)]; exact hM4 j hj) hb1 hb2 hb3
        refine z_iload_n (pc := 68) C dX7_round_68 rfl ?_
        refine z_sipush (v := nI 200) (pc := 69) C dX7_round_69 (by decide +kernel) ?_
        refine z_icmp_gtF (pc := 72) C 79 dX7_round_72 (by decide) (nI_nlt (by omega) (by decide)) ?_
        refine z_iload_n (pc := 75) C dX7_round_75 rfl ?_
        refine z_goto (pc := 76) C 81 dX7_round_76 (by decide) ?_
        exact z_iret (pc := 81) C ρ dX7_round_81 (⟨_, rfl, by rw [← hans, s_rnd, if_pos hs], rfl, hq.1, hq.2⟩)
      · refine z_if_neF (pc := 51) C 64 dX7_round_51 (by decide) (by decide) ?_
        refine z_aload_n (pc := 54) C dX7_round_54 rfl ?_
        refine kX7_163 (pc := 55) C dX7_round_55 (m7_night κ.2.1 E S im_48 M hM n n7 _ (by rw [hfo _ (by omega) (by omega)]; exact hm) (-1) (by rw [hfo _ (by omega) (by omega)]; exact hi4) (hok.sam (sam_nights hok.1.1 k))) (ml_K hM) (by decide) (Nat.le_of_ble_eq_true rfl) (Nat.le_refl _) (Nat.le_refl _) (fun S_55 im_55 h_55 => ?_)
        obtain ⟨rfl, hm2, hfr2⟩ := h_55
        refine z_iincN (pc := 58) C 1 dX7_round_58 rfl (by decide) rfl ?_
        refine z_goto (pc := 61) C 40 dX7_round_61 (by decide) ?_
        exact ih (k + 1) im_55 (by omega) (by rw [← hans, s_rnd, if_neg (by rw [hs]; decide)]) hm2 (hfr.tr (hfo.P.tr hfr2.P)) (by rw [hfr2 _ (by omega) (by omega) (by omega) (by omega) (by omega), hfo _ (by omega) (by omega)]; exact h6) (fun j hj => by rw [hfr2 _ (by omega) (by omega) (by omega) (by omega) (by omega), hfo _ (by omega) (by omega)]; exact hM4 j hj) (by rw [hfr2 _ (by omega) (by omega) (by omega) (by omega) (by omega), hfo _ (by omega) (by omega)]; exact hi4) (fun i hi => by rw [hfr2 _ (by omega) (by omega) (by omega) (by omega) (by omega), hfo _ (by omega) (by omega)]; exact h7 i hi)
  refine z_aload_n (pc := 4) C dX7_round_4 rfl ?_
  refine kX7_153 (pc := 5) C dX7_round_5 (m7_findOrder κ.2.1 E S im_1 M hM n n7 (by rw [hf1]; exact hok)) (ml_K hM) (by decide) (Nat.le_of_ble_eq_true rfl) (Nat.le_refl _) (Nat.le_refl _) (fun S_5 im_5 h_5 => ?_)
  obtain ⟨rfl, hrow, hfo⟩ := h_5
  rw [hf1] at hrow
  have loopC : ∀ (r i : Nat) (im' : Mem), i + r = 10 → im' (M + 1) = f → frP M im im' → im' (M + 6) = im_1 (M + 6) → (∀ j, j ≠ 4 → im' M j = im M j) → im' M 4 = -1 → im' (M + 4) = im_5 (M + 4) → (∀ j, j < i → im' (M + 7) j = im_5 (M + 4) j) → V E κ 2 0 0 10 [some (.ref M), some (.int (nI i))] [] S im' := by
    intro r
    induction r with
    | zero =>
      intro i im' hi hm hfr h6 hM4 hi4 h4 h7
      refine z_iload_n (pc := 10) C dX7_round_10 rfl ?_
      refine z_bipushN (pc := 11) C 10 (by decide) dX7_round_11 ?_
      refine z_icmp_geT (pc := 13) C 34 dX7_round_13 (by decide) (nI_le (by omega) (by omega)) ?_
      refine z_iconstN (pc := 34) C 1 dX7_round_34 ?_
      refine z_istore_n (pc := 35) C dX7_round_35 (by decide) rfl ?_
      refine z_aload_n (pc := 36) C dX7_round_36 rfl ?_
      refine kX7_163 (pc := 37) C dX7_round_37 (m7_night κ.2.1 E S im' M hM n n7 f hm (-1) hi4 hok) (ml_K hM) (by decide) (Nat.le_of_ble_eq_true rfl) (Nat.le_refl _) (Nat.le_refl _) (fun S_37 im_37 h_37 => ?_)
      obtain ⟨rfl, hm2, hfr2⟩ := h_37
      exact loop 200 1 im_37 (by omega) rfl hm2 (hfr.tr hfr2.P) (by rw [hfr2 _ (by omega) (by omega) (by omega) (by omega) (by omega)]; exact h6) (fun j hj => by rw [hfr2 _ (by omega) (by omega) (by omega) (by omega) (by omega)]; exact hM4 j hj) (by rw [hfr2 _ (by omega) (by omega) (by omega) (by omega) (by omega)]; exact hi4) (fun j hj => by rw [hfr2 _ (by omega) (by omega) (by omega) (by omega) (by omega), h7 j (by omega)]; exact hrow j hj)
    | succ r ih =>
      intro i im' hi hm hfr h6 hM4 hi4 h4 h7
      refine z_iload_n (pc := 10) C dX7_round_10 rfl ?_
      refine z_bipushN (pc := 11) C 10 (by decide) dX7_round_11 ?_
      refine z_icmp_geF (pc := 13) C 34 dX7_round_13 (by decide) (nI_ge (by omega) (by decide)) ?_
      refine z_aload_n (pc := 16) C dX7_round_16 rfl ?_
      refine gX7_33 (pc := 17) C dX7_round_17 (ml_K hM) (ml_r8 hM) ?_
      refine z_iload_n (pc := 20) C dX7_round_20 rfl ?_
      refine z_aload_n (pc := 21) C dX7_round_21 rfl ?_
      refine gX7_23 (pc := 22) C dX7_round_22 (ml_K hM) (ml_r5 hM) ?_
      refine z_iload_n (pc := 25) C dX7_round_25 rfl ?_
      refine z_iald (pc := 26) C dX7_round_26 (ml_a4 hM) (ml_n4 hM) (by omega) (by decide) ?_
      refine z_iast (pc := 27) C dX7_round_27 (ml_a7 hM) (ml_n7 hM) (by omega) (by decide) ?_
      refine z_iincN (pc := 28) C 1 dX7_round_28 rfl (by decide) rfl ?_
      refine z_goto (pc := 31) C 10 dX7_round_31 (by decide) ?_
      refine ih (i + 1) _ (by omega) (by rw [up2_n _ _ _ (by omega)]; exact hm) (fun a q1 q2 q3 q4 q5 q6 q7 q8 => by rw [up2_n _ _ _ q5]; exact hfr a q1 q2 q3 q4 q5 q6 q7 q8) (by rw [up2_n _ _ _ (by omega)]; exact h6) (fun j hj => by rw [up2_n _ _ _ (by omega)]; exact hM4 j hj) (by rw [up2_n _ _ _ (by omega)]; exact hi4) (by rw [up2_n _ _ _ (by omega)]; exact h4) (fun j hj => ?_)
      rw [up2_s]
      by_cases e : j = i
      · subst e; rw [upd_s, h4]
      · rw [upd_n _ _ e]; exact h7 j (by omega)
  refine z_iconstN (pc := 8) C 0 dX7_round_8 ?_
  refine z_istore_n (pc := 9) C dX7_round_9 (by decide) rfl ?_
  exact loopC 10 0 im_5 (by omega) (by rw [hfo _ (by omega) (by omega)]; exact hf1) ((frP.of_ne hth2).tr hfo.P) (by rw [hfo _ (by omega) (by omega)]) (fun j hj => by rw [hfo _ (by omega) (by omega), hth2 _ (by omega)]) (by rw [hfo _ (by omega) (by omega)]; exact hi1) rfl (fun j h => absurd h (Nat.not_lt_zero _))
