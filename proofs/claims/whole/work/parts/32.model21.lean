/-! the reference: go -/
theorem up2_at (im : Mem) (q k : Nat) (v : Int32) (j : Nat) : up2 im q k v q j = if j = k then v else im q j := by
  rw [up2_s]
  by_cases e : j = k
  · rw [if_pos e, e, upd_s]
  · rw [if_neg e, upd_n _ _ e]
theorem rn_stop {a : Nat → Int32} {P : Int32 → Bool} : ∀ r p, (0 < r → ¬ P (a p) = true) → rn a P r p = p := by
  intro r p h
  cases r with
  | zero => rfl
  | succ r => rw [rn, if_neg (h (by omega))]
set_option maxRecDepth 100000 in
set_option maxHeartbeats 4000000 in
theorem m7_go (l : Launch) (E : Ex) (S : Sx) (im : Mem) (M : Nat) (hM : ML S M) (T : Nat) (hT : T ≤ 96) (ht : im M 11 = nI T) (p : Nat) (hp : p ≤ T) (hn : im M 12 = nI p) (w : Bool) (hw : wOk (im M 16) p w) : Mt l E yX7_go cX7_go 2 none 2 0 0 [.ref M] S im (pV (fun S' im' => S = S' ∧ gGo M im T p w im')) := by
  refine Mt.of (by decide +kernel) rfl rfl (Nat.le_of_ble_eq_true rfl) ?_
  intro κ hκ C ρ
  subst hκ
  show V E κ 2 0 0 0 [some (.ref M), none] [] S im
  have hsp := tS_ge (im (M + 9)) T p
  have hsT0 := tS_le (a := im (M + 9)) hp
  have mid : ∀ (im1 : Mem) (cl : Int32), im1 M 12 = nI (tS (im (M + 9)) T p) → im1 M 13 = nI (tS (im (M + 9)) T p) → (∀ k, k ≠ 12 → k ≠ 13 → im1 M k = im M k) → (∀ c, c ≠ M → im1 c = im c) → cl = (if w = true ∧ tS (im (M + 9)) T p = p then nI 1 else nI 0) → V E κ 2 0 0 63 [some (.ref M), some (.int cl)] [] S im1 := by
    intro im1 cl h12 h13 h1 h1c ecl
    have ht1 : im1 M 11 = nI T := by rw [h1 _ (by decide) (by decide)]; exact ht
    have h19 : im1 (M + 9) = im (M + 9) := h1c _ (by omega)
    have finL : ∀ (j : Nat) (im' : Mem), rn (im (M + 9)) isLb (T - tS (im (M + 9)) T p) (tS (im (M + 9)) T p) = j → tS (im (M + 9)) T p ≤ j → j ≤ T → (im' M 12 = nI j ∧ (∀ k, k ≠ 12 → k ≠ 15 → im' M k = im1 M k) ∧ (∀ c, c ≠ M → im' c = im1 c)) → ¬ tS (im (M + 9)) T p = T → isLb (im (M + 9) (tS (im (M + 9)) T p)) = true → V E κ 2 0 0 117 [some (.ref M), some (.int cl)] [] S im' := by
      intro j im' hR hsj hjT hJ hsT hL
      obtain ⟨hj12, hk, hc⟩ := hJ
      have e9 : im' (M + 9) = im (M + 9) := by rw [hc _ (by omega)]; exact h19
      have hE : tE (im (M + 9)) T p = j := by rw [tE, if_neg hsT, if_pos hL, hR]
      refine z_aload_n (pc := 117) C dX7_go_117 rfl ?_
      refine z_iload_n (pc := 118) C dX7_go_118 rfl ?_
      refine z_if_eq (pc := 119) C 126 dX7_go_119 (by decide) (fun c_119 => ?_) (fun c_119 => ?_)
      · 
        refine z_iconstN (pc := 126) C 1 dX7_go_126 ?_
        refine pX7_215 (pc := 127) C dX7_go_127 (ml_K hM) ?_
        refine z_aload_n (pc := 130) C dX7_go_130 rfl ?_
        refine z_aload_n (pc := 131) C dX7_go_131 rfl ?_
        refine gX7_39 (pc := 132) C dX7_go_132 (ml_K hM) (ml_r10 hM) ?_
        refine z_aload_n (pc := 135) C dX7_go_135 rfl ?_
        refine gX7_209 (pc := 136) C dX7_go_136 (ml_K hM) ?_
        refine z_eqi (y := nI (tS (im (M + 9)) T p)) (by rw [up2_at, if_neg (by decide)]; exact (hk _ (by decide) (by decide)).trans h13) ?_
        refine z_iald (pc := 139) C dX7_go_139 (ml_a9 hM) (ml_n9 hM) (by omega) (by decide) ?_
        refine z_eqi (y := im (M + 9) (tS (im (M + 9)) T p)) (by rw [up2_n _ _ _ (by omega), e9]) ?_
        refine pX7_221 (pc := 140) C dX7_go_140 (ml_K hM) ?_
        refine z_aload_n (pc := 143) C dX7_go_143 rfl ?_
        refine z_aload_n (pc := 144) C dX7_go_144 rfl ?_
        refine gX7_206 (pc := 145) C dX7_go_145 (ml_K hM) ?_
        refine z_eqi (y := nI j) (by rw [up2_at, if_neg (by decide), up2_at, if_neg (by decide)]; exact hj12) ?_
        refine pX7_212 (pc := 148) C dX7_go_148 (ml_K hM) ?_
        refine z_goto (pc := 151) C 303 dX7_go_151 (by decide) ?_
        exact z_vret (pc := 303) C ρ dX7_go_303 (⟨rfl, rfl, by simp [up2_at]; rw [hk _ (by decide) (by decide)]; exact h13, by simp only [up2_at, if_true, if_neg (show ¬ 14 = 16 by decide), if_neg (show ¬ 14 = 15 by decide)]; rw [tK, if_neg hsT, if_pos hL]; rw [if_neg (by rw [ecl] at c_119; exact fun h => absurd c_119 (by rw [if_pos h]; decide))], by simp [up2_at]; rw [hj12, hE], fun _ => by simp [up2_at]; rw [hE], fun h => absurd ⟨hsT, Or.inl hL⟩ h, fun _ => by simp [up2_at]; rw [tV, if_neg (by rw [L_notD hL]; decide)], (fun k q1 q2 q3 q4 q5 => by simp only [up2_at, if_neg q1, if_neg q2, if_neg q3, if_neg q4, if_neg q5]; rw [hk k q1 q4]; exact h1 k q1 q2), (fun c q => by simp only [up2_n _ _ _ q]; rw [hc c q]; exact h1c c q)⟩)
      · 
        refine z_iconstN (pc := 122) C 4 dX7_go_122 ?_
        refine z_goto (pc := 123) C 127 dX7_go_123 (by decide) ?_
        refine pX7_215 (pc := 127) C dX7_go_127 (ml_K hM) ?_
        refine z_aload_n (pc := 130) C dX7_go_130 rfl ?_
        refine z_aload_n (pc := 131) C dX7_go_131 rfl ?_
        refine gX7_39 (pc := 132) C dX7_go_132 (ml_K hM) (ml_r10 hM) ?_
        refine z_aload_n (pc := 135) C dX7_go_135 rfl ?_
        refine gX7_209 (pc := 136) C dX7_go_136 (ml_K hM) ?_
        refine z_eqi (y := nI (tS (im (M + 9)) T p)) (by rw [up2_at, if_neg (by decide)]; exact (hk _ (by decide) (by decide)).trans h13) ?_
        refine z_iald (pc := 139) C dX7_go_139 (ml_a9 hM) (ml_n9 hM) (by omega) (by decide) ?_
        refine z_eqi (y := im (M + 9) (tS (im (M + 9)) T p)) (by rw [up2_n _ _ _ (by omega), e9]) ?_
        refine pX7_221 (pc := 140) C dX7_go_140 (ml_K hM) ?_
        refine z_aload_n (pc := 143) C dX7_go_143 rfl ?_
        refine z_aload_n (pc := 144) C dX7_go_144 rfl ?_
        refine gX7_206 (pc := 145) C dX7_go_145 (ml_K hM) ?_
        refine z_eqi (y := nI j) (by rw [up2_at, if_neg (by decide), up2_at, if_neg (by decide)]; exact hj12) ?_
        refine pX7_212 (pc := 148) C dX7_go_148 (ml_K hM) ?_
        refine z_goto (pc := 151) C 303 dX7_go_151 (by decide) ?_
        exact z_vret (pc := 303) C ρ dX7_go_303 (⟨rfl, rfl, by simp [up2_at]; rw [hk _ (by decide) (by decide)]; exact h13, by simp only [up2_at, if_true, if_neg (show ¬ 14 = 16 by decide), if_neg (show ¬ 14 = 15 by decide)]; rw [tK, if_neg hsT, if_pos hL]; rw [if_pos (by by_cases h : w = true ∧ tS (im (M + 9)) T p = p; exact h; exact absurd (by rw [ecl, if_neg h]; decide) c_119)], by simp [up2_at]; rw [hj12, hE], fun _ => by simp [up2_at]; rw [hE], fun h => absurd ⟨hsT, Or.inl hL⟩ h, fun _ => by simp [up2_at]; rw [tV, if_neg (by rw [L_notD hL]; decide)], (fun k q1 q2 q3 q4 q5 => by simp only [up2_at, if_neg q1, if_neg q2, if_neg q3, if_neg q4, if_neg q5]; rw [hk k q1 q4]; exact h1 k q1 q2), (fun c q => by simp only [up2_n _ _ _ q]; rw [hc c q]; exact h1c c q)⟩)
    have loopL : ¬ tS (im (M + 9)) T p = T → isLb (im (M + 9) (tS (im (M + 9)) T p)) = true → ∀ (r j : Nat) (im' : Mem), j + r = T → rn (im (M + 9)) isLb (T - j) j = rn (im (M + 9)) isLb (T - tS (im (M + 9)) T p) (tS (im (M + 9)) T p) → tS (im (M + 9)) T p ≤ j → (im' M 12 = nI j ∧ (∀ k, k ≠ 12 → k ≠ 15 → im' M k = im1 M k) ∧ (∀ c, c ≠ M → im' c = im1 c)) → V E κ 2 0 0 93 [some (.ref M), some (.int cl)] [] S im' := by
      intro hsT hL r
      induction r with
      | zero =>
        intro j im' hj hR hsj hJ
        obtain ⟨hj12, hk, hc⟩ := hJ
        have finL := fun j im' h1 h2 h3 h4 => finL j im' h1 h2 h3 h4 hsT hL
        refine z_aload_n (pc := 93) C dX7_go_93 rfl ?_
        refine z_aload_n (pc := 94) C dX7_go_94 rfl ?_
        refine gX7_206 (pc := 95) C dX7_go_95 (ml_K hM) ?_
        refine z_eqi (y := nI j) (hj12) ?_
        refine kX7_218 (pc := 98) C dX7_go_98 (m7_isLetter κ.2.1 E S im' M hM T hT (by rw [hk _ (by decide) (by decide)]; exact ht1) j (by omega)) (ml_K hM) (by decide) (Nat.le_of_ble_eq_true rfl) (Nat.le_refl _) (Nat.le_refl _) (fun v_98 S_98 im_98 h_98 => ?_)
        rcases h_98 with ⟨hb_98, rfl, rfl, rfl⟩ | ⟨hb_98, rfl, rfl, rfl⟩
        · 
          exact absurd hb_98.1 (by omega)
        · 
          refine z_if_eqT (pc := 101) C 117 dX7_go_101 (by decide) (by decide) ?_
          exact finL j im' (by rw [← hR, show T - j = 0 by omega, rn]) hsj (by omega) ⟨hj12, hk, hc⟩
      | succ r ih =>
        intro j im' hj hR hsj hJ
        obtain ⟨hj12, hk, hc⟩ := hJ
        have e9 : im' (M + 9) = im (M + 9) := by rw [hc _ (by omega)]; exact h19
        have finL := fun j im' h1 h2 h3 h4 => finL j im' h1 h2 h3 h4 hsT hL
        refine z_aload_n (pc := 93) C dX7_go_93 rfl ?_
        refine z_aload_n (pc := 94) C dX7_go_94 rfl ?_
        refine gX7_206 (pc := 95) C dX7_go_95 (ml_K hM) ?_
        refine z_eqi (y := nI j) (hj12) ?_
        refine kX7_218 (pc := 98) C dX7_go_98 (m7_isLetter κ.2.1 E S im' M hM T hT (by rw [hk _ (by decide) (by decide)]; exact ht1) j (by omega)) (ml_K hM) (by decide) (Nat.le_of_ble_eq_true rfl) (Nat.le_refl _) (Nat.le_refl _) (fun v_98 S_98 im_98 h_98 => ?_)
        rcases h_98 with ⟨hb_98, rfl, rfl, rfl⟩ | ⟨hb_98, rfl, rfl, rfl⟩
        · 
          refine z_if_eqF (pc := 101) C 117 dX7_go_101 (by decide) (by decide) ?_
          refine z_aload_n (pc := 104) C dX7_go_104 rfl ?_
          refine z_dup (pc := 105) C dX7_go_105 rfl ?_
          refine gX7_206 (pc := 106) C dX7_go_106 (ml_K hM) ?_
          refine z_eqi (y := nI j) (hj12) ?_
          refine z_iconstN (pc := 109) C 1 dX7_go_109 ?_
          refine z_iaddN (pc := 110) C dX7_go_110 ?_
          refine pX7_206 (pc := 111) C dX7_go_111 (ml_K hM) ?_
          refine z_goto (pc := 114) C 93 dX7_go_114 (by decide) ?_
          exact ih (j + 1) _ (by omega) (by rw [← hR]; rw [show T - j = r + 1 by omega, rn, if_pos (by have := hb_98.2; rw [e9] at this; exact this), show T - (j + 1) = r by omega]) (by omega) ⟨by rw [up2_at, if_pos rfl], fun k q q2 => by rw [up2_at, if_neg q]; exact hk k q q2, fun c q => by rw [up2_n _ _ _ q]; exact hc c q⟩
        · 
          refine z_if_eqT (pc := 101) C 117 dX7_go_101 (by decide) (by decide) ?_
          exact finL j im' (by rw [← hR]; exact rn_stop _ _ (fun _ h => hb_98 ⟨by omega, by rw [e9]; exact h⟩)) hsj (by omega) ⟨hj12, hk, hc⟩
    have finD : ∀ (j : Nat) (im' : Mem), rn (im (M + 9)) isDb (T - tS (im (M + 9)) T p) (tS (im (M + 9)) T p) = j → tS (im (M + 9)) T p ≤ j → j ≤ T → (im' M 12 = nI j ∧ (∀ k, k ≠ 12 → k ≠ 15 → im' M k = im1 M k) ∧ (∀ c, c ≠ M → im' c = im1 c)) → im' M 15 = vl (im (M + 9)) (tS (im (M + 9)) T p) (j - tS (im (M + 9)) T p) → ¬ tS (im (M + 9)) T p = T → isLb (im (M + 9) (tS (im (M + 9)) T p)) = false → isDb (im (M + 9) (tS (im (M + 9)) T p)) = true → V E κ 2 0 0 238 [some (.ref M), some (.int cl)] [] S im' := by
      intro j im' hR hsj hjT hJ h15 hsT hL hD
      obtain ⟨hj12, hk, hc⟩ := hJ
      have hE : tE (im (M + 9)) T p = j := by rw [tE, if_neg hsT, if_neg (by rw [hL]; decide), if_pos hD, hR]
      refine z_aload_n (pc := 238) C dX7_go_238 rfl ?_
      refine z_iload_n (pc := 239) C dX7_go_239 rfl ?_
      refine z_if_ne (pc := 240) C 256 dX7_go_240 (by decide) (fun c_240 => ?_) (fun c_240 => ?_)
      · 
        refine z_iconstN (pc := 256) C 4 dX7_go_256 ?_
        refine z_goto (pc := 257) C 261 dX7_go_257 (by decide) ?_
        refine pX7_215 (pc := 261) C dX7_go_261 (ml_K hM) ?_
        refine z_aload_n (pc := 264) C dX7_go_264 rfl ?_
        refine z_aload_n (pc := 265) C dX7_go_265 rfl ?_
        refine gX7_206 (pc := 266) C dX7_go_266 (ml_K hM) ?_
        refine z_eqi (y := nI j) (by rw [up2_at, if_neg (by decide)]; exact hj12) ?_
        refine pX7_212 (pc := 269) C dX7_go_269 (ml_K hM) ?_
        refine z_goto (pc := 272) C 303 dX7_go_272 (by decide) ?_
        exact z_vret (pc := 303) C ρ dX7_go_303 (⟨rfl, rfl, by simp [up2_at]; rw [hk _ (by decide) (by decide)]; exact h13, by simp only [up2_at, if_true, if_neg (show ¬ 14 = 16 by decide)]; rw [tK, if_neg hsT, if_neg (by rw [hL]; decide), if_pos hD]; rw [if_pos (by by_cases h : w = true ∧ tS (im (M + 9)) T p = p; exact h; exact absurd (by rw [ecl, if_neg h]; decide) c_240)], by simp [up2_at]; rw [hj12, hE], fun _ => by simp [up2_at]; rw [hE], fun h => absurd ⟨hsT, Or.inr hD⟩ h, fun _ => by simp [up2_at]; rw [tV, if_pos hD, hE]; exact h15, (fun k q1 q2 q3 q4 q5 => by simp only [up2_at, if_neg q1, if_neg q2, if_neg q3, if_neg q4, if_neg q5]; rw [hk k q1 q4]; exact h1 k q1 q2), (fun c q => by simp only [up2_n _ _ _ q]; rw [hc c q]; exact h1c c q)⟩)
      · 
        refine z_aload_n (pc := 243) C dX7_go_243 rfl ?_
        refine gX7_206 (pc := 244) C dX7_go_244 (ml_K hM) ?_
        refine z_eqi (y := nI j) (hj12) ?_
        refine z_aload_n (pc := 247) C dX7_go_247 rfl ?_
        refine gX7_209 (pc := 248) C dX7_go_248 (ml_K hM) ?_
        refine z_eqi (y := nI (tS (im (M + 9)) T p)) ((hk _ (by decide) (by decide)).trans h13) ?_
        refine z_isubN (pc := 251) C dX7_go_251 (hsj) ?_
        refine z_iconstN (pc := 252) C 4 dX7_go_252 ?_
        refine z_icmp_leN (pc := 253) C 260 dX7_go_253 (by decide) (by omega) (by omega) (fun c_253 => ?_) (fun c_253 => ?_)
        · 
          refine z_iconstN (pc := 260) C 2 dX7_go_260 ?_
          refine pX7_215 (pc := 261) C dX7_go_261 (ml_K hM) ?_
          refine z_aload_n (pc := 264) C dX7_go_264 rfl ?_
          refine z_aload_n (pc := 265) C dX7_go_265 rfl ?_
          refine gX7_206 (pc := 266) C dX7_go_266 (ml_K hM) ?_
          refine z_eqi (y := nI j) (by rw [up2_at, if_neg (by decide)]; exact hj12) ?_
          refine pX7_212 (pc := 269) C dX7_go_269 (ml_K hM) ?_
          refine z_goto (pc := 272) C 303 dX7_go_272 (by decide) ?_
          exact z_vret (pc := 303) C ρ dX7_go_303 (⟨rfl, rfl, by simp [up2_at]; rw [hk _ (by decide) (by decide)]; exact h13, by simp only [up2_at, if_true, if_neg (show ¬ 14 = 16 by decide)]; rw [tK, if_neg hsT, if_neg (by rw [hL]; decide), if_pos hD]; have hcl : ¬ (w = true ∧ tS (im (M + 9)) T p = p) := (by rw [ecl] at c_240; exact fun h => absurd c_240 (by rw [if_pos h]; decide)); rw [if_neg hcl]; rw [hE, if_pos c_253], by simp [up2_at]; rw [hj12, hE], fun _ => by simp [up2_at]; rw [hE], fun h => absurd ⟨hsT, Or.inr hD⟩ h, fun _ => by simp [up2_at]; rw [tV, if_pos hD, hE]; exact h15, (fun k q1 q2 q3 q4 q5 => by simp only [up2_at, if_neg q1, if_neg q2, if_neg q3, if_neg q4, if_neg q5]; rw [hk k q1 q4]; exact h1 k q1 q2), (fun c q => by simp only [up2_n _ _ _ q]; rw [hc c q]; exact h1c c q)⟩)
        · 
          refine z_iconstN (pc := 256) C 4 dX7_go_256 ?_
          refine z_goto (pc := 257) C 261 dX7_go_257 (by decide) ?_
          refine pX7_215 (pc := 261) C dX7_go_261 (ml_K hM) ?_
          refine z_aload_n (pc := 264) C dX7_go_264 rfl ?_
          refine z_aload_n (pc := 265) C dX7_go_265 rfl ?_
          refine gX7_206 (pc := 266) C dX7_go_266 (ml_K hM) ?_
          refine z_eqi (y := nI j) (by rw [up2_at, if_neg (by decide)]; exact hj12) ?_
          refine pX7_212 (pc := 269) C dX7_go_269 (ml_K hM) ?_
          refine z_goto (pc := 272) C 303 dX7_go_272 (by decide) ?_
          exact z_vret (pc := 303) C ρ dX7_go_303 (⟨rfl, rfl, by simp [up2_at]; rw [hk _ (by decide) (by decide)]; exact h13, by simp only [up2_at, if_true, if_neg (show ¬ 14 = 16 by decide)]; rw [tK, if_neg hsT, if_neg (by rw [hL]; decide), if_pos hD]; have hcl : ¬ (w = true ∧ tS (im (M + 9)) T p = p) := (by rw [ecl] at c_240; exact fun h => absurd c_240 (by rw [if_pos h]; decide)); rw [if_neg hcl]; rw [hE, if_neg c_253], by simp [up2_at]; rw [hj12, hE], fun _ => by simp [up2_at]; rw [hE], fun h => absurd ⟨hsT, Or.inr hD⟩ h, fun _ => by simp [up2_at]; rw [tV, if_pos hD, hE]; exact h15, (fun k q1 q2 q3 q4 q5 => by simp only [up2_at, if_neg q1, if_neg q2, if_neg q3, if_neg q4, if_neg q5]; rw [hk k q1 q4]; exact h1 k q1 q2), (fun c q => by simp only [up2_n _ _ _ q]; rw [hc c q]; exact h1c c q)⟩)
    have loopD : ¬ tS (im (M + 9)) T p = T → isLb (im (M + 9) (tS (im (M + 9)) T p)) = false → isDb (im (M + 9) (tS (im (M + 9)) T p)) = true → ∀ (r j : Nat) (im' : Mem), j + r = T → rn (im (M + 9)) isDb (T - j) j = rn (im (M + 9)) isDb (T - tS (im (M + 9)) T p) (tS (im (M + 9)) T p) → tS (im (M + 9)) T p ≤ j → (im' M 12 = nI j ∧ (∀ k, k ≠ 12 → k ≠ 15 → im' M k = im1 M k) ∧ (∀ c, c ≠ M → im' c = im1 c)) → im' M 15 = vl (im (M + 9)) (tS (im (M + 9)) T p) (j - tS (im (M + 9)) T p) → V E κ 2 0 0 170 [some (.ref M), some (.int cl)] [] S im' := by
      intro hsT hL hD r
      induction r with
      | zero =>
        intro j im' hj hR hsj hJ h15
        obtain ⟨hj12, hk, hc⟩ := hJ
        have finD := fun j im' h1 h2 h3 h4 h5 => finD j im' h1 h2 h3 h4 h5 hsT hL hD
        refine z_aload_n (pc := 170) C dX7_go_170 rfl ?_
        refine z_aload_n (pc := 171) C dX7_go_171 rfl ?_
        refine gX7_206 (pc := 172) C dX7_go_172 (ml_K hM) ?_
        refine z_eqi (y := nI j) (hj12) ?_
        refine kX7_224 (pc := 175) C dX7_go_175 (m7_isFigure κ.2.1 E S im' M hM T hT (by rw [hk _ (by decide) (by decide)]; exact ht1) j (by omega)) (ml_K hM) (by decide) (Nat.le_of_ble_eq_true rfl) (Nat.le_refl _) (Nat.le_refl _) (fun v_175 S_175 im_175 h_175 => ?_)
        rcases h_175 with ⟨hb_175, rfl, rfl, rfl⟩ | ⟨hb_175, rfl, rfl, rfl⟩
        · 
          exact absurd hb_175.1 (by omega)
        · 
          refine z_if_eqT (pc := 178) C 238 dX7_go_178 (by decide) (by decide) ?_
          exact finD j im' (by rw [← hR, show T - j = 0 by omega, rn]) hsj (by omega) ⟨hj12, hk, hc⟩ h15
      | succ r ih =>
        intro j im' hj hR hsj hJ h15
        obtain ⟨hj12, hk, hc⟩ := hJ
        have e9 : im' (M + 9) = im (M + 9) := by rw [hc _ (by omega)]; exact h19
        have finD := fun j im' h1 h2 h3 h4 h5 => finD j im' h1 h2 h3 h4 h5 hsT hL hD
        refine z_aload_n (pc := 170) C dX7_go_170 rfl ?_
        refine z_aload_n (pc := 171) C dX7_go_171 rfl ?_
        refine gX7_206 (pc := 172) C dX7_go_172 (ml_K hM) ?_
        refine z_eqi (y := nI j) (hj12) ?_
        refine kX7_224 (pc := 175) C dX7_go_175 (m7_isFigure κ.2.1 E S im' M hM T hT (by rw [hk _ (by decide) (by decide)]; exact ht1) j (by omega)) (ml_K hM) (by decide) (Nat.le_of_ble_eq_true rfl) (Nat.le_refl _) (Nat.le_refl _) (fun v_175 S_175 im_175 h_175 => ?_)
        rcases h_175 with ⟨hb_175, rfl, rfl, rfl⟩ | ⟨hb_175, rfl, rfl, rfl⟩
        · 
          refine z_if_eqF (pc := 178) C 238 dX7_go_178 (by decide) (by decide) ?_
          refine z_aload_n (pc := 181) C dX7_go_181 rfl ?_
          refine z_aload_n (pc := 182) C dX7_go_182 rfl ?_
          refine gX7_206 (pc := 183) C dX7_go_183 (ml_K hM) ?_
          refine z_eqi (y := nI j) (hj12) ?_
          refine z_aload_n (pc := 186) C dX7_go_186 rfl ?_
          refine gX7_209 (pc := 187) C dX7_go_187 (ml_K hM) ?_
          refine z_eqi (y := nI (tS (im (M + 9)) T p)) ((hk _ (by decide) (by decide)).trans h13) ?_
          refine z_isubN (pc := 190) C dX7_go_190 (hsj) ?_
          refine z_iconstN (pc := 191) C 4 dX7_go_191 ?_
          have j_222 : ∀ x222 : Int32, x222 = (vl (im (M + 9)) (tS (im (M + 9)) T p) (j - tS (im (M + 9)) T p + 1)) → V E κ 2 0 0 222 [some (.ref M), some (.int cl)] [.int x222, .ref M] S im' := by
            intro x222 ex222
            refine pX7_221 (pc := 222) C dX7_go_222 (ml_K hM) ?_
            refine z_aload_n (pc := 225) C dX7_go_225 rfl ?_
            refine z_dup (pc := 226) C dX7_go_226 rfl ?_
            refine gX7_206 (pc := 227) C dX7_go_227 (ml_K hM) ?_
            refine z_eqi (y := nI j) (by rw [up2_at, if_neg (by decide)]; exact hj12) ?_
            refine z_iconstN (pc := 230) C 1 dX7_go_230 ?_
            refine z_iaddN (pc := 231) C dX7_go_231 ?_
            refine pX7_206 (pc := 232) C dX7_go_232 (ml_K hM) ?_
            refine z_goto (pc := 235) C 170 dX7_go_235 (by decide) ?_
            exact ih (j + 1) _ (by omega) (by rw [← hR]; rw [show T - j = r + 1 by omega, rn, if_pos (by have := hb_175.2; rw [e9] at this; exact this), show T - (j + 1) = r by omega]) (by omega) ⟨by rw [up2_at, if_pos rfl], fun k q q2 => by rw [up2_at, if_neg q, up2_at, if_neg q2]; exact hk k q q2, fun c q => by rw [up2_n _ _ _ q, up2_n _ _ _ q]; exact hc c q⟩ (by rw [up2_at, if_neg (by decide), up2_at, if_pos rfl, ex222, show j + 1 - tS (im (M + 9)) T p = j - tS (im (M + 9)) T p + 1 by omega])
          refine z_icmp_geN (pc := 192) C 218 dX7_go_192 (by decide) (by omega) (by omega) (fun c_192 => ?_) (fun c_192 => ?_)
          · 
            refine z_aload_n (pc := 218) C dX7_go_218 rfl ?_
            refine gX7_221 (pc := 219) C dX7_go_219 (ml_K hM) ?_
            exact j_222 _ (by rw [vl, if_neg (by omega)]; exact h15)
          · 
            refine z_bipushN (pc := 195) C 10 (by decide) dX7_go_195 ?_
            refine z_aload_n (pc := 197) C dX7_go_197 rfl ?_
            refine gX7_221 (pc := 198) C dX7_go_198 (ml_K hM) ?_
            refine z_eqi (y := vl (im (M + 9)) (tS (im (M + 9)) T p) (j - tS (im (M + 9)) T p)) (h15) ?_
            refine z_imul (pc := 201) C dX7_go_201 ?_
            refine z_aload_n (pc := 202) C dX7_go_202 rfl ?_
            refine gX7_39 (pc := 203) C dX7_go_203 (ml_K hM) (ml_r10 hM) ?_
            refine z_aload_n (pc := 206) C dX7_go_206 rfl ?_
            refine gX7_206 (pc := 207) C dX7_go_207 (ml_K hM) ?_
            refine z_eqi (y := nI j) (hj12) ?_
            refine z_iald (pc := 210) C dX7_go_210 (ml_a9 hM) (ml_n9 hM) (by omega) (by decide) ?_
            refine z_eqi (y := im (M + 9) j) (by rw [e9]) ?_
            refine z_iadd (pc := 211) C dX7_go_211 ?_
            refine z_bipushN (pc := 212) C 48 (by decide) dX7_go_212 ?_
            refine z_isub (pc := 214) C dX7_go_214 ?_
            refine z_goto (pc := 215) C 222 dX7_go_215 (by decide) ?_
            exact j_222 _ (by rw [vl, if_pos (by omega), show tS (im (M + 9)) T p + (j - tS (im (M + 9)) T p) = j by omega])
        · 
          refine z_if_eqT (pc := 178) C 238 dX7_go_178 (by decide) (by decide) ?_
          exact finD j im' (by rw [← hR]; exact rn_stop _ _ (fun _ h => hb_175 ⟨by omega, by rw [e9]; exact h⟩)) hsj (by omega) ⟨hj12, hk, hc⟩ h15
    refine z_aload_n (pc := 63) C dX7_go_63 rfl ?_
    refine gX7_209 (pc := 64) C dX7_go_64 (ml_K hM) ?_
    refine z_eqi (y := nI (tS (im (M + 9)) T p)) (h13) ?_
    refine z_aload_n (pc := 67) C dX7_go_67 rfl ?_
    refine gX7_203 (pc := 68) C dX7_go_68 (ml_K hM) ?_
    refine z_eqi (y := nI T) (ht1) ?_
    refine z_icmp_neN (pc := 71) C 82 dX7_go_71 (by decide) (by omega) (by omega) (fun c_71 => ?_) (fun c_71 => ?_)
    · 
      refine z_aload_n (pc := 82) C dX7_go_82 rfl ?_
      refine z_aload_n (pc := 83) C dX7_go_83 rfl ?_
      refine gX7_209 (pc := 84) C dX7_go_84 (ml_K hM) ?_
      refine z_eqi (y := nI (tS (im (M + 9)) T p)) (h13) ?_
      refine kX7_218 (pc := 87) C dX7_go_87 (m7_isLetter κ.2.1 E S im1 M hM T hT ht1 (tS (im (M + 9)) T p) (by omega)) (ml_K hM) (by decide) (Nat.le_of_ble_eq_true rfl) (Nat.le_refl _) (Nat.le_refl _) (fun v_87 S_87 im_87 h_87 => ?_)
      rcases h_87 with ⟨hb_87, rfl, rfl, rfl⟩ | ⟨hb_87, rfl, rfl, rfl⟩
      · 
        have hL := hb_87.2
        rw [h19] at hL
        refine z_if_eqF (pc := 90) C 154 dX7_go_90 (by decide) (by decide) ?_
        exact loopL c_71 hL (T - tS (im (M + 9)) T p) (tS (im (M + 9)) T p) im1 (by omega) rfl (Nat.le_refl _) ⟨h12, fun _ _ _ => rfl, fun _ _ => rfl⟩
      · 
        have nL : ¬ isLb (im (M + 9) (tS (im (M + 9)) T p)) = true := fun h => hb_87 ⟨by omega, by rw [h19]; exact h⟩
        refine z_if_eqT (pc := 90) C 154 dX7_go_90 (by decide) (by decide) ?_
        refine z_aload_n (pc := 154) C dX7_go_154 rfl ?_
        refine z_aload_n (pc := 155) C dX7_go_155 rfl ?_
        refine gX7_209 (pc := 156) C dX7_go_156 (ml_K hM) ?_
        refine z_eqi (y := nI (tS (im (M + 9)) T p)) (h13) ?_
        refine kX7_224 (pc := 159) C dX7_go_159 (m7_isFigure κ.2.1 E S im1 M hM T hT ht1 (tS (im (M + 9)) T p) (by omega)) (ml_K hM) (by decide) (Nat.le_of_ble_eq_true rfl) (Nat.le_refl _) (Nat.le_refl _) (fun v_159 S_159 im_159 h_159 => ?_)
        rcases h_159 with ⟨hb_159, rfl, rfl, rfl⟩ | ⟨hb_159, rfl, rfl, rfl⟩
        · 
          have hD := hb_159.2
          rw [h19] at hD
          have nL2 : isLb (im (M + 9) (tS (im (M + 9)) T p)) = false := by cases hq : isLb (im (M + 9) (tS (im (M + 9)) T p)) with
            | true => exact absurd hq nL
            | false => rfl
          refine z_if_eqF (pc := 162) C 275 dX7_go_162 (by decide) (by decide) ?_
          refine z_aload_n (pc := 165) C dX7_go_165 rfl ?_
          refine z_iconstN (pc := 166) C 0 dX7_go_166 ?_
          refine pX7_221 (pc := 167) C dX7_go_167 (ml_K hM) ?_
          exact loopD c_71 nL2 hD (T - tS (im (M + 9)) T p) (tS (im (M + 9)) T p) _ (by omega) rfl (Nat.le_refl _) ⟨by rw [up2_at, if_neg (by decide)]; exact h12, fun k _ q => by rw [up2_at, if_neg q], fun c q => up2_n _ _ _ q⟩ (by rw [up2_at, if_pos rfl, Nat.sub_self]; rfl)
        · 
          have nD : ¬ isDb (im (M + 9) (tS (im (M + 9)) T p)) = true := fun h => hb_159 ⟨by omega, by rw [h19]; exact h⟩
          refine z_if_eqT (pc := 162) C 275 dX7_go_162 (by decide) (by decide) ?_
          refine z_aload_n (pc := 275) C dX7_go_275 rfl ?_
          refine z_iconstN (pc := 276) C 3 dX7_go_276 ?_
          refine pX7_215 (pc := 277) C dX7_go_277 (ml_K hM) ?_
          refine z_aload_n (pc := 280) C dX7_go_280 rfl ?_
          refine z_aload_n (pc := 281) C dX7_go_281 rfl ?_
          refine gX7_39 (pc := 282) C dX7_go_282 (ml_K hM) (ml_r10 hM) ?_
          refine z_aload_n (pc := 285) C dX7_go_285 rfl ?_
          refine gX7_209 (pc := 286) C dX7_go_286 (ml_K hM) ?_
          refine z_eqi (y := nI (tS (im (M + 9)) T p)) (by rw [up2_at, if_neg (by decide)]; exact h13) ?_
          refine z_iald (pc := 289) C dX7_go_289 (ml_a9 hM) (ml_n9 hM) (by omega) (by decide) ?_
          refine z_eqi (y := im (M + 9) (tS (im (M + 9)) T p)) (by rw [up2_n _ _ _ (by omega), h19]) ?_
          refine pX7_221 (pc := 290) C dX7_go_290 (ml_K hM) ?_
          refine z_aload_n (pc := 293) C dX7_go_293 rfl ?_
          refine z_dup (pc := 294) C dX7_go_294 rfl ?_
          refine gX7_206 (pc := 295) C dX7_go_295 (ml_K hM) ?_
          refine z_eqi (y := nI (tS (im (M + 9)) T p)) (by simp [up2_at]; exact h12) ?_
          refine z_iconstN (pc := 298) C 1 dX7_go_298 ?_
          refine z_iaddN (pc := 299) C dX7_go_299 ?_
          refine pX7_206 (pc := 300) C dX7_go_300 (ml_K hM) ?_
          exact z_vret (pc := 303) C ρ dX7_go_303 (⟨rfl, rfl, by simp [up2_at]; exact h13, by simp only [up2_at, if_neg (show ¬ 14 = 12 by decide), if_neg (show ¬ 14 = 15 by decide), if_true]; rw [tK, if_neg c_71, if_neg nL, if_neg nD], by rw [up2_at, if_pos rfl, tE, if_neg c_71, if_neg nL, if_neg nD], fun h => absurd h.2 (by rintro (q | q); exact nL q; exact nD q), fun _ => by simp [up2_at]; rw [h1 _ (by decide) (by decide)], fun _ => by simp [up2_at]; rw [tV, if_neg nD], (fun k q1 q2 q3 q4 q5 => by simp only [up2_at, if_neg q1, if_neg q2, if_neg q3, if_neg q4, if_neg q5]; exact h1 k q1 q2), (fun c q => by simp only [up2_n _ _ _ q]; exact h1c c q)⟩)
    · 
      refine z_aload_n (pc := 74) C dX7_go_74 rfl ?_
      refine z_iconstN (pc := 75) C 0 dX7_go_75 ?_
      refine pX7_215 (pc := 76) C dX7_go_76 (ml_K hM) ?_
      refine z_goto (pc := 79) C 303 dX7_go_79 (by decide) ?_
      exact z_vret (pc := 303) C ρ dX7_go_303 (⟨rfl, rfl, by simp [up2_at]; exact h13, by rw [up2_at, if_pos rfl, tK, if_pos c_71], by simp [up2_at]; rw [h12, tE, if_pos c_71], fun h => absurd c_71 h.1, fun _ => by simp [up2_at]; rw [h1 _ (by decide) (by decide)], fun h => absurd c_71 h, (fun k q1 q2 q3 q4 q5 => by simp only [up2_at, if_neg q1, if_neg q2, if_neg q3, if_neg q4, if_neg q5]; exact h1 k q1 q2), (fun c q => by simp only [up2_n _ _ _ q]; exact h1c c q)⟩)
  have hclw : (if nI (tS (im (M + 9)) T p) = im M 16 then nI 1 else nI 0) = (if w = true ∧ tS (im (M + 9)) T p = p then nI 1 else nI 0) := by
    cases w with
    | true =>
      rw [hw.1 rfl]
      by_cases e : tS (im (M + 9)) T p = p
      · rw [if_pos (by rw [e]), if_pos ⟨rfl, e⟩]
      · rw [if_neg (by rw [nI_eq (by omega) (by omega)]; exact e), if_neg (fun h => e h.2)]
    | false =>
      rw [if_neg (hw.2 rfl _ hsp (by omega)), if_neg (fun h => absurd h.1 (by decide))]
  have loop : ∀ (r j : Nat) (im' : Mem), j + r = T → rn (im (M + 9)) isSb (T - j) j = rn (im (M + 9)) isSb (T - p) p → im' M 12 = nI j → (∀ k, k ≠ 12 → im' M k = im M k) → (∀ c, c ≠ M → im' c = im c) → V E κ 2 0 0 0 [some (.ref M), none] [] S im' := by
    intro r
    induction r with
    | zero =>
      intro j im' hj hR hj12 hk hc
      refine z_aload_n (pc := 0) C dX7_go_0 rfl ?_
      refine gX7_206 (pc := 1) C dX7_go_1 (ml_K hM) ?_
      refine z_eqi (y := nI j) (hj12) ?_
      refine z_aload_n (pc := 4) C dX7_go_4 rfl ?_
      refine gX7_203 (pc := 5) C dX7_go_5 (ml_K hM) ?_
      refine z_eqi (y := nI T) (by rw [hk _ (by decide)]; exact ht) ?_
      refine z_icmp_geT (pc := 8) C 38 dX7_go_8 (by decide) (nI_le (by omega) (by omega)) ?_
      refine z_aload_n (pc := 38) C dX7_go_38 rfl ?_
      refine z_aload_n (pc := 39) C dX7_go_39 rfl ?_
      refine gX7_206 (pc := 40) C dX7_go_40 (ml_K hM) ?_
      refine z_eqi (y := nI j) (hj12) ?_
      refine pX7_209 (pc := 43) C dX7_go_43 (ml_K hM) ?_
      refine z_aload_n (pc := 46) C dX7_go_46 rfl ?_
      refine gX7_209 (pc := 47) C dX7_go_47 (ml_K hM) ?_
      refine z_eqi (y := nI j) (by rw [up2_at, if_pos rfl]) ?_
      refine z_aload_n (pc := 50) C dX7_go_50 rfl ?_
      refine gX7_212 (pc := 51) C dX7_go_51 (ml_K hM) ?_
      refine z_eqi (y := im M 16) (by rw [up2_at, if_neg (by decide)]; exact hk _ (by decide)) ?_
      have j_62 : ∀ x62 : Int32, x62 = (if nI j = im M 16 then nI 1 else nI 0) → V E κ 2 0 0 62 [some (.ref M), none] [.int x62] S (up2 im' M 13 (nI j)) := by
        intro x62 ex62
        refine z_istore_n (pc := 62) C dX7_go_62 (by decide) rfl ?_
        have hjs : j = tS (im (M + 9)) T p := by rw [tS, ← hR, show T - j = 0 by omega, rn]
        subst hjs
        exact mid _ x62 (by rw [up2_at, if_neg (by decide)]; exact hj12) (by rw [up2_at, if_pos rfl]) (fun k q1 q2 => by rw [up2_at, if_neg q2]; exact hk k q1) (fun c q => by rw [up2_n _ _ _ q]; exact hc c q) (by rw [ex62]; exact hclw)
      refine z_icmp_ne (pc := 54) C 61 dX7_go_54 (by decide) (fun c_54 => ?_) (fun c_54 => ?_)
      · 
        refine z_iconstN (pc := 61) C 0 dX7_go_61 ?_
        exact j_62 _ (by simp only [if_neg c_54])
      · 
        refine z_iconstN (pc := 57) C 1 dX7_go_57 ?_
        refine z_goto (pc := 58) C 62 dX7_go_58 (by decide) ?_
        exact j_62 _ (by simp only [if_pos c_54])
    | succ r ih =>
      intro j im' hj hR hj12 hk hc
      refine z_aload_n (pc := 0) C dX7_go_0 rfl ?_
      refine gX7_206 (pc := 1) C dX7_go_1 (ml_K hM) ?_
      refine z_eqi (y := nI j) (hj12) ?_
      refine z_aload_n (pc := 4) C dX7_go_4 rfl ?_
      refine gX7_203 (pc := 5) C dX7_go_5 (ml_K hM) ?_
      refine z_eqi (y := nI T) (by rw [hk _ (by decide)]; exact ht) ?_
      refine z_icmp_geF (pc := 8) C 38 dX7_go_8 (by decide) (nI_ge (by omega) (by omega)) ?_
      refine z_aload_n (pc := 11) C dX7_go_11 rfl ?_
      refine gX7_39 (pc := 12) C dX7_go_12 (ml_K hM) (ml_r10 hM) ?_
      refine z_aload_n (pc := 15) C dX7_go_15 rfl ?_
      refine gX7_206 (pc := 16) C dX7_go_16 (ml_K hM) ?_
      refine z_eqi (y := nI j) (hj12) ?_
      refine z_iald (pc := 19) C dX7_go_19 (ml_a9 hM) (ml_n9 hM) (by omega) (by decide) ?_
      refine z_eqi (y := im (M + 9) j) (by rw [hc _ (by omega)]) ?_
      refine z_bipushN (pc := 20) C 32 (by decide) dX7_go_20 ?_
      refine z_icmp_ne (pc := 22) C 38 dX7_go_22 (by decide) (fun c_22 => ?_) (fun c_22 => ?_)
      · 
        refine z_aload_n (pc := 38) C dX7_go_38 rfl ?_
        refine z_aload_n (pc := 39) C dX7_go_39 rfl ?_
        refine gX7_206 (pc := 40) C dX7_go_40 (ml_K hM) ?_
        refine z_eqi (y := nI j) (hj12) ?_
        refine pX7_209 (pc := 43) C dX7_go_43 (ml_K hM) ?_
        refine z_aload_n (pc := 46) C dX7_go_46 rfl ?_
        refine gX7_209 (pc := 47) C dX7_go_47 (ml_K hM) ?_
        refine z_eqi (y := nI j) (by rw [up2_at, if_pos rfl]) ?_
        refine z_aload_n (pc := 50) C dX7_go_50 rfl ?_
        refine gX7_212 (pc := 51) C dX7_go_51 (ml_K hM) ?_
        refine z_eqi (y := im M 16) (by rw [up2_at, if_neg (by decide)]; exact hk _ (by decide)) ?_
        have j_62 : ∀ x62 : Int32, x62 = (if nI j = im M 16 then nI 1 else nI 0) → V E κ 2 0 0 62 [some (.ref M), none] [.int x62] S (up2 im' M 13 (nI j)) := by
          intro x62 ex62
          refine z_istore_n (pc := 62) C dX7_go_62 (by decide) rfl ?_
          have hjs : j = tS (im (M + 9)) T p := by rw [tS, ← hR]; exact (rn_stop _ _ (fun _ h => c_22 (by rw [isSb, decide_eq_true_eq] at h; exact h))).symm
          subst hjs
          exact mid _ x62 (by rw [up2_at, if_neg (by decide)]; exact hj12) (by rw [up2_at, if_pos rfl]) (fun k q1 q2 => by rw [up2_at, if_neg q2]; exact hk k q1) (fun c q => by rw [up2_n _ _ _ q]; exact hc c q) (by rw [ex62]; exact hclw)
        refine z_icmp_ne (pc := 54) C 61 dX7_go_54 (by decide) (fun c_54 => ?_) (fun c_54 => ?_)
        · 
          refine z_iconstN (pc := 61) C 0 dX7_go_61 ?_
          exact j_62 _ (by simp only [if_neg c_22, if_neg c_54])
        · 
          refine z_iconstN (pc := 57) C 1 dX7_go_57 ?_
          refine z_goto (pc := 58) C 62 dX7_go_58 (by decide) ?_
          exact j_62 _ (by simp only [if_neg c_22, if_pos c_54])
      · 
        refine z_aload_n (pc := 25) C dX7_go_25 rfl ?_
        refine z_dup (pc := 26) C dX7_go_26 rfl ?_
        refine gX7_206 (pc := 27) C dX7_go_27 (ml_K hM) ?_
        refine z_eqi (y := nI j) (hj12) ?_
        refine z_iconstN (pc := 30) C 1 dX7_go_30 ?_
        refine z_iaddN (pc := 31) C dX7_go_31 ?_
        refine pX7_206 (pc := 32) C dX7_go_32 (ml_K hM) ?_
        refine z_goto (pc := 35) C 0 dX7_go_35 (by decide) ?_
        exact ih (j + 1) _ (by omega) (by rw [← hR]; rw [show T - j = r + 1 by omega, rn, if_pos (by rw [isSb, decide_eq_true_eq]; exact c_22), show T - (j + 1) = r by omega]) (by rw [up2_at, if_pos rfl]) (fun k q => by rw [up2_at, if_neg q]; exact hk k q) (fun c q => by rw [up2_n _ _ _ q]; exact hc c q)
  exact loop (T - p) p im (by omega) rfl hn (fun _ _ => rfl) (fun _ _ => rfl)
