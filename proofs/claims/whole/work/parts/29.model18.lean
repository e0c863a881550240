/-! the reference: check -/
def s_ck (h : Nat → Int32) (n n7 : Nat) (tl : Nat → Int32) (wt : Nat) : Nat → Nat → Nat
  | 0, k => 2 * k
  | r + 1, k => if 2 * k < wt ∧ tl (2 * k) = s_nights h n n7 (-1) (k + 1) 6 then (if 2 * k + 1 < wt ∧ tl (2 * k + 1) = s_sum (s_nights h n n7 (-1) (k + 1)) 4 n then s_ck h n n7 tl wt r (k + 1) else 2 * k + 1) else 2 * k
def r_check (h : Nat → Int32) (n n7 : Nat) (tl : Nat → Int32) (wt : Nat) (hi x : Int32) : Int32 := if nI 1 ≤ x ∧ x ≤ nI 30 then (if hi = 0 then -1000000002 else if s_ck h n n7 tl wt (k_nights h x) 0 = wt then (if s_ck h n n7 tl wt (k_nights h x) 0 = 2 * k_nights h x then nI 0 else nI (1 + s_ck h n n7 tl wt (k_nights h x) 0)) else nI (1 + s_ck h n n7 tl wt (k_nights h x) 0)) else -1000000001
theorem s_ck_le (h : Nat → Int32) (n n7 : Nat) (tl : Nat → Int32) (wt : Nat) : ∀ r k, s_ck h n n7 tl wt r k ≤ 2 * (k + r) + 1 := by
  intro r
  induction r with
  | zero => intro k; rw [s_ck]; omega
  | succ r ih => intro k; rw [s_ck]; have := ih (k + 1); split; split <;> omega; omega
set_option maxRecDepth 100000 in
set_option maxHeartbeats 4000000 in
theorem m7_check (l : Launch) (E : Ex) (S : Sx) (im : Mem) (M : Nat) (hM : ML S M) (f : Nat → Int32) (hf0 : im (M + 1) = f) (hidle : im M 4 = -1) (wt : Nat) (hwt : wt ≤ 60) (hw : im M 37 = nI wt) (h : Nat → Int32) (hh : cpA (im (M + 2)) f = h) (n n7 : Nat) (hok0 : im M 3 ≠ 0 → MOk h n n7) (x : Int32) : Mt l E yX7_check cX7_check 6 (some .int) 7 0 0 [.ref M, .int x] S im (pI (fun v S' im' => r_check h n n7 (im (M + 25)) wt (im M 3) x = v ∧ S = S' ∧ im' (M + 1) = f ∧ im' M = upd (im M) 37 (nI 0) ∧ ∀ a, a ≠ M → a ≠ M + 1 → a ≠ M + 3 → a ≠ M + 4 → a ≠ M + 5 → a ≠ M + 15 → a ≠ M + 16 → im' a = im a)) := by
  refine Mt.of (by decide +kernel) rfl rfl (Nat.le_of_ble_eq_true rfl) ?_
  intro κ hκ C ρ
  subst hκ
  show V E κ 6 0 0 0 [some (.ref M), some (.int x), none, none, none, none] [] S im
  refine z_aload_n (pc := 0) C dX7_check_0 rfl ?_
  refine gX7_277 (pc := 1) C dX7_check_1 (ml_K hM) ?_
  refine z_eqi (y := nI wt) (hw) ?_
  refine z_istore_n (pc := 4) C dX7_check_4 (by decide) rfl ?_
  refine z_aload_n (pc := 5) C dX7_check_5 rfl ?_
  refine z_iconstN (pc := 6) C 0 dX7_check_6 ?_
  refine pX7_277 (pc := 7) C dX7_check_7 (ml_K hM) ?_
  refine z_iload_n (pc := 10) C dX7_check_10 rfl ?_
  refine z_iconstN (pc := 11) C 1 dX7_check_11 ?_
  refine z_bipushN (pc := 12) C 30 (by decide) dX7_check_12 ?_
  refine kX7_92 (pc := 14) C dX7_check_14 (m7_in κ.2.1 E S _ x (nI 1) (nI 30)) (by decide) (Nat.le_of_ble_eq_true rfl) (Nat.le_refl _) (Nat.le_refl _) (fun v_14 S_14 im_14 h_14 => ?_)
  rcases h_14 with ⟨hb_14, rfl, rfl, rfl⟩ | ⟨hb_14, rfl, rfl, rfl⟩
  · 
    obtain ⟨x0, hx00, hx0, rfl⟩ := (rng (by decide) (by decide)).mp hb_14
    have hcx : (nI x0).toNatClampNeg = x0 := nI_clamp (by omega)
    refine z_if_neT (pc := 17) C 23 dX7_check_17 (by decide) (by decide) ?_
    refine z_aload_n (pc := 23) C dX7_check_23 rfl ?_
    refine gX7_280 (pc := 24) C dX7_check_24 (ml_K hM) ?_
    refine z_eqi (y := im M 3) (by rw [up2_s, upd_n _ _ (by decide)]) ?_
    refine z_if_ne (pc := 27) C 34 dX7_check_27 (by decide) (fun c_27 => ?_) (fun c_27 => ?_)
    · 
      have hok := hok0 c_27
      refine z_aload_n (pc := 34) C dX7_check_34 rfl ?_
      refine gX7_9 (pc := 35) C dX7_check_35 (ml_K hM) (ml_r0 hM) ?_
      refine z_aload_n (pc := 38) C dX7_check_38 rfl ?_
      refine gX7_16 (pc := 39) C dX7_check_39 (ml_K hM) (ml_r2 hM) ?_
      refine kX7_284 (pc := 42) C dX7_check_42 (m7_copyAll κ.2.1 E S (up2 im M 37 (nI 0)) (M + 1) (M + 3) (by omega) (ml_a1 hM) (ml_n1 hM) (ml_a3 hM) (ml_n3 hM)) (by decide) (Nat.le_of_ble_eq_true rfl) (Nat.le_refl _) (Nat.le_refl _) (fun S_42 im_42 h_42 => ?_)
      obtain ⟨rfl, hc1, ho1⟩ := h_42
      refine z_aload_n (pc := 45) C dX7_check_45 rfl ?_
      refine gX7_13 (pc := 46) C dX7_check_46 (ml_K hM) (ml_r1 hM) ?_
      refine z_aload_n (pc := 49) C dX7_check_49 rfl ?_
      refine gX7_9 (pc := 50) C dX7_check_50 (ml_K hM) (ml_r0 hM) ?_
      refine kX7_284 (pc := 53) C dX7_check_53 (m7_copyAll κ.2.1 E S im_42 (M + 2) (M + 1) (by omega) (ml_a2 hM) (ml_n2 hM) (ml_a1 hM) (ml_n1 hM)) (by decide) (Nat.le_of_ble_eq_true rfl) (Nat.le_refl _) (Nat.le_refl _) (fun S_53 im_53 h_53 => ?_)
      obtain ⟨rfl, hc2, ho2⟩ := h_53
      have hmh : im_53 (M + 1) = h := by rw [hc2, ho1 _ (by omega), ho1 _ (by omega), up2_n _ _ _ (by omega), up2_n _ _ _ (by omega), hf0, hh]
      have h3 : im_53 (M + 3) = cpA f (im (M + 3)) := by rw [ho2 _ (by omega), hc1, up2_n _ _ _ (by omega), up2_n _ _ _ (by omega), hf0]
      have hM1 : im_53 M = upd (im M) 37 (nI 0) := by rw [ho2 _ (by omega), ho1 _ (by omega), up2_s]
      have h25 : im_53 (M + 25) = im (M + 25) := by rw [ho2 _ (by omega), ho1 _ (by omega), up2_n _ _ _ (by omega)]
      have ho1 : ∀ a, a ≠ M → a ≠ M + 1 → a ≠ M + 3 → im_53 a = im a := fun a q0 q1 q3 => by rw [ho2 _ q1, ho1 _ q3, up2_n _ _ _ q0]
      have hback : ∀ g : Nat → Int32, sam h g → cpA (cpA f (im (M + 3))) g = f := fun g hs => by
        funext j
        unfold cpA
        by_cases e : j < 1450
        · rw [if_pos e, if_pos e]
        · rw [if_neg e, hs.2.2 j (by omega), ← hh]; unfold cpA; rw [if_neg e]
      refine z_iconstN (pc := 56) C 2 dX7_check_56 ?_
      refine z_sipush (v := nI 9999) (pc := 57) C dX7_check_57 (by decide +kernel) ?_
      refine z_aload_n (pc := 60) C dX7_check_60 rfl ?_
      refine gX7_9 (pc := 61) C dX7_check_61 (ml_K hM) (ml_r0 hM) ?_
      refine z_iconstN (pc := 64) C 2 dX7_check_64 ?_
      refine z_iald (pc := 65) C dX7_check_65 (ml_a1 hM) (ml_n1 hM) (by omega) (by decide) ?_
      refine z_eqi (y := h 2) (by rw [hmh]) ?_
      refine z_isub (pc := 66) C dX7_check_66 ?_
      refine z_iconstN (pc := 67) C 0 dX7_check_67 ?_
      refine z_iload_n (pc := 68) C dX7_check_68 rfl ?_
      refine kX7_117 (pc := 69) C dX7_check_69 (m7_within κ.2.1 E S im_53 (nI 9999 - h 2) (nI 0) (nI x0)) (by decide) (Nat.le_of_ble_eq_true rfl) (Nat.le_refl _) (Nat.le_refl _) (fun v_69 S_69 im_69 h_69 => ?_)
      obtain ⟨rfl, rfl, rfl⟩ := h_69
      obtain ⟨d, hd, ed⟩ := s_within_nI (v := nI 9999 - h 2) (b := x0) (by omega)
      have hkd : k_nights h (nI x0) = d := by rw [k_nights, ed]; exact nI_clamp (by omega)
      refine z_eqi (y := nI d) ed ?_
      generalize hi1 : im_53 = im1 at hmh h3 hM1 h25 ho1 ⊢
      have hR31 : s_ck h n n7 (im (M + 25)) wt d 0 ≤ 61 := by have := s_ck_le h n n7 (im (M + 25)) wt d 0; omega
      have fin : ∀ (rg k : Nat) (im' : Mem), rg = s_ck h n n7 (im (M + 25)) wt d 0 → k ≤ 31 → im' (M + 1) = s_nights h n n7 (-1) k → (∀ a, a ≠ M + 1 → a ≠ M + 4 → a ≠ M + 5 → a ≠ M + 15 → a ≠ M + 16 → im' a = im1 a) → V E κ 6 0 0 182 [some (.ref M), some (.int (nI x0)), some (.int (nI wt)), some (.int (nI (2 * d))), some (.int (nI rg)), some (.int (nI k))] [] S im' := by
        intro rg k im' hrg hd31 hm hfr
        refine z_aload_n (pc := 182) C dX7_check_182 rfl ?_
        refine gX7_16 (pc := 183) C dX7_check_183 (ml_K hM) (ml_r2 hM) ?_
        refine z_aload_n (pc := 186) C dX7_check_186 rfl ?_
        refine gX7_9 (pc := 187) C dX7_check_187 (ml_K hM) (ml_r0 hM) ?_
        refine kX7_284 (pc := 190) C dX7_check_190 (m7_copyAll κ.2.1 E S im' (M + 3) (M + 1) (by omega) (ml_a3 hM) (ml_n3 hM) (ml_a1 hM) (ml_n1 hM)) (by decide) (Nat.le_of_ble_eq_true rfl) (Nat.le_refl _) (Nat.le_refl _) (fun S_190 im_190 h_190 => ?_)
        obtain ⟨rfl, hc, ho⟩ := h_190
        refine z_iload (pc := 193) C dX7_check_193 rfl ?_
        refine z_iload_n (pc := 195) C dX7_check_195 rfl ?_
        refine z_icmp_neN (pc := 196) C 209 dX7_check_196 (by decide) (by omega) (by omega) (fun c_196 => ?_) (fun c_196 => ?_)
        · 
          refine z_iconstN (pc := 209) C 1 dX7_check_209 ?_
          refine z_iload (pc := 210) C dX7_check_210 rfl ?_
          refine z_iaddN (pc := 212) C dX7_check_212 ?_
          exact z_iret (pc := 213) C ρ dX7_check_213 (⟨_, rfl, by simp only [r_check, if_pos hb_14, if_neg c_27, hkd, ← hrg, if_neg c_196], rfl, by rw [hc, hfr _ (by omega) (by omega) (by omega) (by omega) (by omega), h3, hm]; exact hback (s_nights h n n7 (-1) k) (sam_nights hok.1.1 k), by rw [ho _ (by omega), hfr _ (by omega) (by omega) (by omega) (by omega) (by omega), hM1], fun a q0 q1 q3 q4 q5 q15 q16 => by rw [ho _ q1, hfr _ q1 q4 q5 q15 q16]; exact ho1 a q0 q1 q3⟩)
        · 
          refine z_iload (pc := 199) C dX7_check_199 rfl ?_
          refine z_iload_n (pc := 201) C dX7_check_201 rfl ?_
          refine z_icmp_neN (pc := 202) C 209 dX7_check_202 (by decide) (by omega) (by omega) (fun c_202 => ?_) (fun c_202 => ?_)
          · 
            refine z_iconstN (pc := 209) C 1 dX7_check_209 ?_
            refine z_iload (pc := 210) C dX7_check_210 rfl ?_
            refine z_iaddN (pc := 212) C dX7_check_212 ?_
            exact z_iret (pc := 213) C ρ dX7_check_213 (⟨_, rfl, by simp only [r_check, if_pos hb_14, if_neg c_27, hkd, ← hrg, if_pos c_196, if_neg c_202], rfl, by rw [hc, hfr _ (by omega) (by omega) (by omega) (by omega) (by omega), h3, hm]; exact hback (s_nights h n n7 (-1) k) (sam_nights hok.1.1 k), by rw [ho _ (by omega), hfr _ (by omega) (by omega) (by omega) (by omega) (by omega), hM1], fun a q0 q1 q3 q4 q5 q15 q16 => by rw [ho _ q1, hfr _ q1 q4 q5 q15 q16]; exact ho1 a q0 q1 q3⟩)
          · 
            refine z_iconstN (pc := 205) C 0 dX7_check_205 ?_
            refine z_goto (pc := 206) C 213 dX7_check_206 (by decide) ?_
            exact z_iret (pc := 213) C ρ dX7_check_213 (⟨_, rfl, by simp only [r_check, if_pos hb_14, if_neg c_27, hkd, ← hrg, if_pos c_196, if_pos c_202], rfl, by rw [hc, hfr _ (by omega) (by omega) (by omega) (by omega) (by omega), h3, hm]; exact hback (s_nights h n n7 (-1) k) (sam_nights hok.1.1 k), by rw [ho _ (by omega), hfr _ (by omega) (by omega) (by omega) (by omega) (by omega), hM1], fun a q0 q1 q3 q4 q5 q15 q16 => by rw [ho _ q1, hfr _ q1 q4 q5 q15 q16]; exact ho1 a q0 q1 q3⟩)
      have ex : ∀ (rg k : Nat) (im' : Mem), (2 * d ≤ 2 * k ∨ rg ≠ 2 * k) → rg = s_ck h n n7 (im (M + 25)) wt d 0 → k ≤ 31 → im' (M + 1) = s_nights h n n7 (-1) k → (∀ a, a ≠ M + 1 → a ≠ M + 4 → a ≠ M + 5 → a ≠ M + 15 → a ≠ M + 16 → im' a = im1 a) → V E κ 6 0 0 80 [some (.ref M), some (.int (nI x0)), some (.int (nI wt)), some (.int (nI (2 * d))), some (.int (nI rg)), some (.int (nI k))] [] S im' := by
        intro rg k im' hex hrg hd31 hm hfr
        refine z_iconstN (pc := 80) C 2 dX7_check_80 ?_
        refine z_iload (pc := 81) C dX7_check_81 rfl ?_
        refine z_imulN (pc := 83) C dX7_check_83 ?_
        refine z_iload_n (pc := 84) C dX7_check_84 rfl ?_
        refine z_icmp_geN (pc := 85) C 182 dX7_check_85 (by decide) (by omega) (by omega) (fun c_85 => ?_) (fun c_85 => ?_)
        · 
          exact fin rg k im' hrg hd31 hm hfr
        · 
          refine z_iload (pc := 88) C dX7_check_88 rfl ?_
          refine z_iconstN (pc := 90) C 2 dX7_check_90 ?_
          refine z_iload (pc := 91) C dX7_check_91 rfl ?_
          refine z_imulN (pc := 93) C dX7_check_93 ?_
          refine z_icmp_neN (pc := 94) C 182 dX7_check_94 (by decide) (by omega) (by omega) (fun c_94 => ?_) (fun c_94 => ?_)
          · 
            exact fin rg k im' hrg hd31 hm hfr
          · 
            exact absurd hex (by omega)
      have loop : ∀ (r k : Nat) (im' : Mem), k + r = d → s_ck h n n7 (im (M + 25)) wt r k = s_ck h n n7 (im (M + 25)) wt d 0 → im' (M + 1) = s_nights h n n7 (-1) k → (∀ a, a ≠ M + 1 → a ≠ M + 4 → a ≠ M + 5 → a ≠ M + 15 → a ≠ M + 16 → im' a = im1 a) → V E κ 6 0 0 80 [some (.ref M), some (.int (nI x0)), some (.int (nI wt)), some (.int (nI (2 * d))), some (.int (nI (2 * k))), some (.int (nI k))] [] S im' := by
        intro r
        induction r with
        | zero =>
          intro k im' hk hR hm hfr
          exact ex (2 * k) k im' (Or.inl (by omega)) (by rw [← hR, s_ck]) (by omega) hm hfr
        | succ r ih =>
          intro k im' hk hR hm hfr
          refine z_iconstN (pc := 80) C 2 dX7_check_80 ?_
          refine z_iload (pc := 81) C dX7_check_81 rfl ?_
          refine z_imulN (pc := 83) C dX7_check_83 ?_
          refine z_iload_n (pc := 84) C dX7_check_84 rfl ?_
          refine z_icmp_geF (pc := 85) C 182 dX7_check_85 (by decide) (nI_ge (by omega) (by omega)) ?_
          refine z_iload (pc := 88) C dX7_check_88 rfl ?_
          refine z_iconstN (pc := 90) C 2 dX7_check_90 ?_
          refine z_iload (pc := 91) C dX7_check_91 rfl ?_
          refine z_imulN (pc := 93) C dX7_check_93 ?_
          refine z_icmp_neF (pc := 94) C 182 dX7_check_94 (by decide) (rfl) ?_
          refine z_aload_n (pc := 97) C dX7_check_97 rfl ?_
          refine kX7_163 (pc := 98) C dX7_check_98 (m7_night κ.2.1 E S im' M hM n n7 _ hm (-1) (by rw [hfr _ (by omega) (by omega) (by omega) (by omega) (by omega), hM1, upd_n _ _ (by decide)]; exact hidle) (hok.sam (sam_nights hok.1.1 k))) (ml_K hM) (by decide) (Nat.le_of_ble_eq_true rfl) (Nat.le_refl _) (Nat.le_refl _) (fun S_98 im_98 h_98 => ?_)
          obtain ⟨rfl, hm2, hfr2⟩ := h_98
          rw [show s_night (s_nights h n n7 (-1) k) n n7 (-1) = s_nights h n n7 (-1) (k + 1) from rfl] at hm2
          have hokk := hok.sam (sam_nights (n7 := n7) (idle := -1) hok.1.1 (k + 1))
          have hfrn : ∀ a, a ≠ M + 1 → a ≠ M + 4 → a ≠ M + 5 → a ≠ M + 15 → a ≠ M + 16 → im_98 a = im1 a := fun a q1 q2 q3 q4 q5 => (hfr2 a q1 q2 q3 q4 q5).trans (hfr a q1 q2 q3 q4 q5)
          refine z_iload (pc := 101) C dX7_check_101 rfl ?_
          refine z_iload (pc := 103) C dX7_check_103 rfl ?_
          refine z_iload_n (pc := 105) C dX7_check_105 rfl ?_
          have j_131 : ∀ x131 : Int32, x131 = (if 2 * k < wt ∧ im (M + 25) (2 * k) = s_nights h n n7 (-1) (k + 1) 6 then nI 1 else nI 0) → V E κ 6 0 0 131 [some (.ref M), some (.int (nI x0)), some (.int (nI wt)), some (.int (nI (2 * d))), some (.int (nI (2 * k))), some (.int (nI k))] [.int x131, .int (nI (2 * k))] S im_98 := by
            intro x131 ex131
            by_cases hA : 2 * k < wt ∧ im (M + 25) (2 * k) = s_nights h n n7 (-1) (k + 1) 6
            · obtain rfl : x131 = nI 1 := by rw [ex131, if_pos hA]
              refine z_iaddN (pc := 131) C dX7_check_131 ?_
              refine z_istore (pc := 132) C dX7_check_132 (by decide) rfl ?_
              refine z_iload (pc := 134) C dX7_check_134 rfl ?_
              refine z_iload (pc := 136) C dX7_check_136 rfl ?_
              refine z_iconstN (pc := 138) C 2 dX7_check_138 ?_
              refine z_iload (pc := 139) C dX7_check_139 rfl ?_
              refine z_imulN (pc := 141) C dX7_check_141 ?_
              refine z_iconstN (pc := 142) C 1 dX7_check_142 ?_
              refine z_iaddN (pc := 143) C dX7_check_143 ?_
              refine z_icmp_neF (pc := 144) C 172 dX7_check_144 (by decide) (rfl) ?_
              refine z_iload (pc := 147) C dX7_check_147 rfl ?_
              refine z_iload_n (pc := 149) C dX7_check_149 rfl ?_
              refine z_icmp_geN (pc := 150) C 172 dX7_check_150 (by decide) (by omega) (by omega) (fun c_150 => ?_) (fun c_150 => ?_)
              · 
                refine z_iconstN (pc := 172) C 0 dX7_check_172 ?_
                refine z_iaddN (pc := 173) C dX7_check_173 ?_
                refine z_istore (pc := 174) C dX7_check_174 (by decide) rfl ?_
                refine z_iincN (pc := 176) C 1 dX7_check_176 rfl (by decide) rfl ?_
                refine z_goto (pc := 179) C 80 dX7_check_179 (by decide) ?_
                exact ex (2 * k + 1 + 0) (k + 1) im_98 (Or.inr (by omega)) (by rw [← hR, s_ck, if_pos hA, if_neg (fun hh => absurd hh.1 (by omega))]) (by omega) hm2 hfrn
              · 
                refine z_aload_n (pc := 153) C dX7_check_153 rfl ?_
                refine gX7_88 (pc := 154) C dX7_check_154 (ml_K hM) (ml_r36 hM) ?_
                refine z_iload (pc := 157) C dX7_check_157 rfl ?_
                refine z_iald (pc := 159) C dX7_check_159 (ml_a25 hM) (ml_n25 hM) (by omega) (by decide) ?_
                refine z_eqi (y := im (M + 25) (2 * k + 1)) (by rw [hfr2 _ (by omega) (by omega) (by omega) (by omega) (by omega), hfr _ (by omega) (by omega) (by omega) (by omega) (by omega), h25]) ?_
                refine z_aload_n (pc := 160) C dX7_check_160 rfl ?_
                refine z_iconstN (pc := 161) C 4 dX7_check_161 ?_
                refine kX7_170 (pc := 162) C dX7_check_162 (m7_sumOf κ.2.1 E S im_98 M hM n n7 _ hm2 hokk 4 (by decide)) (ml_K hM) (by decide) (Nat.le_of_ble_eq_true rfl) (Nat.le_refl _) (Nat.le_refl _) (fun v_162 S_162 im_162 h_162 => ?_)
                obtain ⟨rfl, rfl, rfl⟩ := h_162
                refine z_icmp_ne (pc := 165) C 172 dX7_check_165 (by decide) (fun c_165 => ?_) (fun c_165 => ?_)
                · 
                  refine z_iconstN (pc := 172) C 0 dX7_check_172 ?_
                  refine z_iaddN (pc := 173) C dX7_check_173 ?_
                  refine z_istore (pc := 174) C dX7_check_174 (by decide) rfl ?_
                  refine z_iincN (pc := 176) C 1 dX7_check_176 rfl (by decide) rfl ?_
                  refine z_goto (pc := 179) C 80 dX7_check_179 (by decide) ?_
                  exact ex (2 * k + 1 + 0) (k + 1) im_98 (Or.inr (by omega)) (by rw [← hR, s_ck, if_pos hA, if_neg (fun hh => c_165 hh.2)]) (by omega) hm2 hfrn
                · 
                  refine z_iconstN (pc := 168) C 1 dX7_check_168 ?_
                  refine z_goto (pc := 169) C 173 dX7_check_169 (by decide) ?_
                  refine z_iaddN (pc := 173) C dX7_check_173 ?_
                  refine z_istore (pc := 174) C dX7_check_174 (by decide) rfl ?_
                  refine z_iincN (pc := 176) C 1 dX7_check_176 rfl (by decide) rfl ?_
                  refine z_goto (pc := 179) C 80 dX7_check_179 (by decide) ?_
                  exact ih (k + 1) im_98 (by omega) (by rw [← hR, s_ck, if_pos hA, if_pos ⟨by omega, c_165⟩]) hm2 hfrn
            · obtain rfl : x131 = nI 0 := by rw [ex131, if_neg hA]
              refine z_iaddN (pc := 131) C dX7_check_131 ?_
              refine z_istore (pc := 132) C dX7_check_132 (by decide) rfl ?_
              refine z_iload (pc := 134) C dX7_check_134 rfl ?_
              refine z_iload (pc := 136) C dX7_check_136 rfl ?_
              refine z_iconstN (pc := 138) C 2 dX7_check_138 ?_
              refine z_iload (pc := 139) C dX7_check_139 rfl ?_
              refine z_imulN (pc := 141) C dX7_check_141 ?_
              refine z_iconstN (pc := 142) C 1 dX7_check_142 ?_
              refine z_iaddN (pc := 143) C dX7_check_143 ?_
              refine z_icmp_neT (pc := 144) C 172 dX7_check_144 (by decide) (by rw [nI_eq (by omega) (by omega)]; omega) ?_
              refine z_iconstN (pc := 172) C 0 dX7_check_172 ?_
              refine z_iaddN (pc := 173) C dX7_check_173 ?_
              refine z_istore (pc := 174) C dX7_check_174 (by decide) rfl ?_
              refine z_iincN (pc := 176) C 1 dX7_check_176 rfl (by decide) rfl ?_
              refine z_goto (pc := 179) C 80 dX7_check_179 (by decide) ?_
              exact ex (2 * k + 0 + 0) (k + 1) im_98 (Or.inr (by omega)) (by rw [← hR, s_ck, if_neg hA]; rfl) (by omega) hm2 hfrn
          refine z_icmp_geN (pc := 106) C 130 dX7_check_106 (by decide) (by omega) (by omega) (fun c_106 => ?_) (fun c_106 => ?_)
          · 
            refine z_iconstN (pc := 130) C 0 dX7_check_130 ?_
            exact j_131 _ (by rw [if_neg (fun hh => absurd hh.1 (by omega))])
          · 
            refine z_aload_n (pc := 109) C dX7_check_109 rfl ?_
            refine gX7_88 (pc := 110) C dX7_check_110 (ml_K hM) (ml_r36 hM) ?_
            refine z_iload (pc := 113) C dX7_check_113 rfl ?_
            refine z_iald (pc := 115) C dX7_check_115 (ml_a25 hM) (ml_n25 hM) (by omega) (by decide) ?_
            refine z_eqi (y := im (M + 25) (2 * k)) (by rw [hfr2 _ (by omega) (by omega) (by omega) (by omega) (by omega), hfr _ (by omega) (by omega) (by omega) (by omega) (by omega), h25]) ?_
            refine z_aload_n (pc := 116) C dX7_check_116 rfl ?_
            refine gX7_9 (pc := 117) C dX7_check_117 (ml_K hM) (ml_r0 hM) ?_
            refine z_bipushN (pc := 120) C 6 (by decide) dX7_check_120 ?_
            refine z_iald (pc := 122) C dX7_check_122 (ml_a1 hM) (ml_n1 hM) (by omega) (by decide) ?_
            refine z_eqi (y := s_nights h n n7 (-1) (k + 1) 6) (by rw [hm2]) ?_
            refine z_icmp_ne (pc := 123) C 130 dX7_check_123 (by decide) (fun c_123 => ?_) (fun c_123 => ?_)
            · 
              refine z_iconstN (pc := 130) C 0 dX7_check_130 ?_
              exact j_131 _ (by rw [if_neg (fun hh => c_123 hh.2)])
            · 
              refine z_iconstN (pc := 126) C 1 dX7_check_126 ?_
              refine z_goto (pc := 127) C 131 dX7_check_127 (by decide) ?_
              exact j_131 _ (by rw [if_pos ⟨by omega, c_123⟩])
      refine z_imulN (pc := 72) C dX7_check_72 ?_
      refine z_istore_n (pc := 73) C dX7_check_73 (by decide) rfl ?_
      refine z_iconstN (pc := 74) C 0 dX7_check_74 ?_
      refine z_istore (pc := 75) C dX7_check_75 (by decide) rfl ?_
      refine z_iconstN (pc := 77) C 0 dX7_check_77 ?_
      refine z_istore (pc := 78) C dX7_check_78 (by decide) rfl ?_
      exact loop d 0 im1 (by omega) rfl hmh (fun _ _ _ _ _ _ => rfl)
    · 
      refine z_ldcw (pc := 30) C dX7_check_30 wk_X7_276 ?_
      exact z_iret (pc := 33) C ρ dX7_check_33 (⟨_, rfl, by simp only [r_check, if_pos hb_14, if_pos c_27], rfl, by rw [up2_n _ _ _ (by omega)]; exact hf0, by rw [up2_s], fun a q0 _ _ _ _ _ _ => up2_n _ _ _ q0⟩)
  · 
    refine z_if_neF (pc := 17) C 23 dX7_check_17 (by decide) (by decide) ?_
    refine z_ldc (pc := 20) C dX7_check_20 wk_X7_100 ?_
    exact z_iret (pc := 22) C ρ dX7_check_22 (⟨_, rfl, by simp only [r_check, if_neg hb_14], rfl, by rw [up2_n _ _ _ (by omega)]; exact hf0, by rw [up2_s], fun a q0 _ _ _ _ _ _ => up2_n _ _ _ q0⟩)
