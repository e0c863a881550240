/-! the class: the reader; step -/
/-- a reader at R, its tape at R + 1, its steps at R + 2 -/
def RLay (S : Sx) (R : Nat) : Prop := S.2.1 R = 5 ∧ S.2.2.2 R 0 = some (R + 1) ∧ S.2.2.2 R 7 = some (R + 2) ∧ (S.2.1 (R + 1) = 8 ∧ S.2.2.1 (R + 1) = 96) ∧ (S.2.1 (R + 2) = 8 ∧ S.2.2.1 (R + 2) = 96)
def srt (a : Nat → Int32) (T k : Nat) : Nat := if k < T then (if isLb (a k) = true then 1 else if isDb (a k) = true then 2 else 3) else 0
theorem lb_iff {x : Int32} : isLb x = true ↔ nI 97 ≤ x ∧ x ≤ nI 122 := decide_eq_true_iff
theorem sb_iff {x : Int32} : isSb x = true ↔ x = nI 32 := decide_eq_true_iff
theorem db_iff {x : Int32} : isDb x = true ↔ nI 48 ≤ x ∧ x ≤ nI 57 := decide_eq_true_iff
theorem srt_le (a : Nat → Int32) (T k : Nat) : srt a T k ≤ 3 := by unfold srt; split; split; decide; split <;> decide; decide
set_option maxRecDepth 100000 in
set_option maxHeartbeats 4000000 in
theorem c5_sortAt (l : Launch) (E : Ex) (S : Sx) (im : Mem) (R : Nat) (hR : RLay S R) (T : Nat) (hT : T ≤ 96) (hl : im R 1 = nI T) (k : Nat) (hk : k < 1000) : Mt l E yX5_sortAt cX5_sortAt 3 (some .int) 1 0 0 [.ref R, .int (nI k)] S im (pI (pE S im (nI (srt (im (R + 1)) T k)))) := by
  refine Mt.of (by decide +kernel) rfl rfl (Nat.le_of_ble_eq_true rfl) ?_
  intro κ hκ C ρ
  subst hκ
  show V E κ 3 0 0 0 [some (.ref R), some (.int (nI k)), none] [] S im
  refine z_iload_n (pc := 0) C dX5_sortAt_0 rfl ?_
  refine z_if_ltF (pc := 1) C 12 dX5_sortAt_1 (by decide) (nI_pos (by omega)) ?_
  refine z_iload_n (pc := 4) C dX5_sortAt_4 rfl ?_
  refine z_aload_n (pc := 5) C dX5_sortAt_5 rfl ?_
  refine gX5_18 (pc := 6) C dX5_sortAt_6 hR.1 ?_
  refine z_eqi (y := nI T) (hl) ?_
  refine z_icmp_ltN (pc := 9) C 14 dX5_sortAt_9 (by decide) (by omega) (by omega) (fun c_9 => ?_) (fun c_9 => ?_)
  · 
    refine z_aload_n (pc := 14) C dX5_sortAt_14 rfl ?_
    refine gX5_9 (pc := 15) C dX5_sortAt_15 hR.1 hR.2.1 ?_
    refine z_iload_n (pc := 18) C dX5_sortAt_18 rfl ?_
    refine z_iald (pc := 19) C dX5_sortAt_19 hR.2.2.2.1.1 hR.2.2.2.1.2 (by omega) (by decide) ?_
    refine z_istore_n (pc := 20) C dX5_sortAt_20 (by decide) rfl ?_
    refine z_bipushN (pc := 21) C 97 (by decide) dX5_sortAt_21 ?_
    refine z_iload_n (pc := 23) C dX5_sortAt_23 rfl ?_
    refine z_icmp_gt (pc := 24) C 35 dX5_sortAt_24 (by decide) (fun c_24 => ?_) (fun c_24 => ?_)
    · 
      refine z_bipushN (pc := 35) C 48 (by decide) dX5_sortAt_35 ?_
      refine z_iload_n (pc := 37) C dX5_sortAt_37 rfl ?_
      refine z_icmp_gt (pc := 38) C 51 dX5_sortAt_38 (by decide) (fun c_38 => ?_) (fun c_38 => ?_)
      · 
        refine z_iconstN (pc := 51) C 3 dX5_sortAt_51 ?_
        exact z_iret (pc := 52) C ρ dX5_sortAt_52 (⟨_, rfl, by rw [srt, if_pos c_9, if_neg (fun h => i_nlt c_24 (lb_iff.mp h).1), if_neg (fun h => i_nlt c_38 (db_iff.mp h).1)], rfl, rfl⟩)
      · 
        refine z_iload_n (pc := 41) C dX5_sortAt_41 rfl ?_
        refine z_bipushN (pc := 42) C 57 (by decide) dX5_sortAt_42 ?_
        refine z_icmp_gt (pc := 44) C 51 dX5_sortAt_44 (by decide) (fun c_44 => ?_) (fun c_44 => ?_)
        · 
          refine z_iconstN (pc := 51) C 3 dX5_sortAt_51 ?_
          exact z_iret (pc := 52) C ρ dX5_sortAt_52 (⟨_, rfl, by rw [srt, if_pos c_9, if_neg (fun h => i_nlt c_24 (lb_iff.mp h).1), if_neg (fun h => i_nlt c_44 (db_iff.mp h).2)], rfl, rfl⟩)
        · 
          refine z_iconstN (pc := 47) C 2 dX5_sortAt_47 ?_
          refine z_goto (pc := 48) C 52 dX5_sortAt_48 (by decide) ?_
          exact z_iret (pc := 52) C ρ dX5_sortAt_52 (⟨_, rfl, by rw [srt, if_pos c_9, if_neg (fun h => i_nlt c_24 (lb_iff.mp h).1), if_pos (db_iff.mpr ⟨i_le c_38, i_le c_44⟩)], rfl, rfl⟩)
    · 
      refine z_iload_n (pc := 27) C dX5_sortAt_27 rfl ?_
      refine z_bipushN (pc := 28) C 122 (by decide) dX5_sortAt_28 ?_
      refine z_icmp_gt (pc := 30) C 35 dX5_sortAt_30 (by decide) (fun c_30 => ?_) (fun c_30 => ?_)
      · 
        refine z_bipushN (pc := 35) C 48 (by decide) dX5_sortAt_35 ?_
        refine z_iload_n (pc := 37) C dX5_sortAt_37 rfl ?_
        refine z_icmp_gt (pc := 38) C 51 dX5_sortAt_38 (by decide) (fun c_38 => ?_) (fun c_38 => ?_)
        · 
          refine z_iconstN (pc := 51) C 3 dX5_sortAt_51 ?_
          exact z_iret (pc := 52) C ρ dX5_sortAt_52 (⟨_, rfl, by rw [srt, if_pos c_9, if_neg (fun h => i_nlt c_30 (lb_iff.mp h).2), if_neg (fun h => i_nlt c_38 (db_iff.mp h).1)], rfl, rfl⟩)
        · 
          refine z_iload_n (pc := 41) C dX5_sortAt_41 rfl ?_
          refine z_bipushN (pc := 42) C 57 (by decide) dX5_sortAt_42 ?_
          refine z_icmp_gt (pc := 44) C 51 dX5_sortAt_44 (by decide) (fun c_44 => ?_) (fun c_44 => ?_)
          · 
            refine z_iconstN (pc := 51) C 3 dX5_sortAt_51 ?_
            exact z_iret (pc := 52) C ρ dX5_sortAt_52 (⟨_, rfl, by rw [srt, if_pos c_9, if_neg (fun h => i_nlt c_30 (lb_iff.mp h).2), if_neg (fun h => i_nlt c_44 (db_iff.mp h).2)], rfl, rfl⟩)
          · 
            refine z_iconstN (pc := 47) C 2 dX5_sortAt_47 ?_
            refine z_goto (pc := 48) C 52 dX5_sortAt_48 (by decide) ?_
            exact z_iret (pc := 52) C ρ dX5_sortAt_52 (⟨_, rfl, by rw [srt, if_pos c_9, if_neg (fun h => i_nlt c_30 (lb_iff.mp h).2), if_pos (db_iff.mpr ⟨i_le c_38, i_le c_44⟩)], rfl, rfl⟩)
      · 
        refine z_iconstN (pc := 33) C 1 dX5_sortAt_33 ?_
        exact z_iret (pc := 34) C ρ dX5_sortAt_34 (⟨_, rfl, by rw [srt, if_pos c_9, if_pos (lb_iff.mpr ⟨i_le c_24, i_le c_30⟩)], rfl, rfl⟩)
  · 
    refine z_iconstN (pc := 12) C 0 dX5_sortAt_12 ?_
    exact z_iret (pc := 13) C ρ dX5_sortAt_13 (⟨_, rfl, by rw [srt, if_neg c_9], rfl, rfl⟩)
theorem srt_1 {a : Nat → Int32} {T k : Nat} (h : k < T) : srt a T k = 1 ↔ isLb (a k) = true := by
  unfold srt
  rw [if_pos h]
  by_cases hL : isLb (a k) = true
  · rw [if_pos hL]; exact ⟨fun _ => hL, fun _ => rfl⟩
  · rw [if_neg hL]; refine ⟨fun q => ?_, fun q => absurd q hL⟩; split at q <;> omega
theorem srt_2 {a : Nat → Int32} {T k : Nat} (h : k < T) : srt a T k = 2 ↔ isDb (a k) = true := by
  unfold srt
  rw [if_pos h]
  by_cases hL : isLb (a k) = true
  · rw [if_pos hL, L_notD hL]; simp
  · rw [if_neg hL]
    by_cases hD : isDb (a k) = true
    · rw [if_pos hD]; exact ⟨fun _ => hD, fun _ => rfl⟩
    · rw [if_neg hD]; exact ⟨fun q => by omega, fun q => absurd q hD⟩
set_option maxRecDepth 100000 in
set_option maxHeartbeats 4000000 in
theorem c5_step (l : Launch) (E : Ex) (S : Sx) (im : Mem) (R : Nat) (hR : RLay S R) (T : Nat) (hT : T ≤ 96) (hl : im R 1 = nI T) (p : Nat) (hp : p ≤ T) (he : im R 4 = nI p) (w : Bool) (hw : (im R 2 = nI 1 ∨ im R 2 = nI 2) ↔ w = true) : Mt l E yX5_step cX5_step 4 none 2 0 0 [.ref R] S im (pV (fun S' im' => S = S' ∧ im' R 3 = nI (tS (im (R + 1)) T p) ∧ im' R 2 = nI (tK (im (R + 1)) T p w) ∧ im' R 4 = nI (tE (im (R + 1)) T p) ∧ (∀ j, j ≠ 2 → j ≠ 3 → j ≠ 4 → im' R j = im R j) ∧ ∀ c, c ≠ R → im' c = im c)) := by
  refine Mt.of (by decide +kernel) rfl rfl (Nat.le_of_ble_eq_true rfl) ?_
  intro κ hκ C ρ
  subst hκ
  show V E κ 4 0 0 0 [some (.ref R), none, none, none] [] S im
  have tail : ∀ b : Nat, b = (if w = true then 1 else 0) → V E κ 4 0 0 21 [some (.ref R), none, none, none] [.int (nI b)] S im := by
    intro b hb
    have hb2 : b < 2 := by rw [hb]; split <;> omega
    obtain ⟨y3, hy3⟩ : ∃ y3 : Option Value, y3 = none := ⟨_, rfl⟩
    have at73 : ∀ (s : Nat) (im' : Mem), s = tS (im (R + 1)) T p → p ≤ s → s ≤ T → im' R 3 = nI s → (∀ j, j ≠ 3 → im' R j = im R j) → (∀ c, c ≠ R → im' c = im c) → V E κ 4 0 0 73 [some (.ref R), some (.int (nI b)), some (.int (nI p)), y3] [] S im' := by
      intro s im' hs hps hsT' h3 hj hc
      by_cases hsT : s = T
      · have hsrt : srt (im (R + 1)) T s = 0 := by rw [srt, if_neg (by omega)]
        have htk : tK (im (R + 1)) T p w = 0 := by rw [tK, ← hs, if_pos hsT]
        have hte : tE (im (R + 1)) T p = s := by rw [tE, ← hs, if_pos hsT]
        refine z_aload_n (pc := 73) C dX5_step_73 rfl ?_
        refine z_aload_n (pc := 74) C dX5_step_74 rfl ?_
        refine z_aload_n (pc := 75) C dX5_step_75 rfl ?_
        refine gX5_59 (pc := 76) C dX5_step_76 hR.1 ?_
        refine z_eqi (y := nI s) (h3) ?_
        refine kX5_62 (pc := 79) C dX5_step_79 (c5_sortAt κ.2.1 E S im' R hR T hT (by rw [hj 1 (by decide)]; exact hl) s (by omega)) hR.1 (by decide) (Nat.le_of_ble_eq_true rfl) (Nat.le_refl _) (Nat.le_refl _) (fun v_79 S_79 im_79 h_79 => ?_)
        obtain ⟨rfl, rfl, rfl⟩ := h_79
        refine z_eqi (y := nI 0) (by rw [hc _ (by omega), hsrt]) ?_
        refine pX5_22 (pc := 82) C dX5_step_82 hR.1 ?_
        refine z_aload_n (pc := 85) C dX5_step_85 rfl ?_
        refine z_aload_n (pc := 86) C dX5_step_86 rfl ?_
        refine gX5_59 (pc := 87) C dX5_step_87 hR.1 ?_
        refine z_eqi (y := nI s) (by rw [up2_at, if_neg (by decide)]; exact h3) ?_
        refine pX5_25 (pc := 90) C dX5_step_90 hR.1 ?_
        refine z_aload_n (pc := 93) C dX5_step_93 rfl ?_
        refine gX5_22 (pc := 94) C dX5_step_94 hR.1 ?_
        refine z_eqi (y := nI 0) (by rw [up2_at, if_neg (by decide), up2_at, if_pos rfl]) ?_
        refine z_iconstN (pc := 97) C 3 dX5_step_97 ?_
        refine z_icmp_neT (pc := 98) C 114 dX5_step_98 (by decide) (by decide) ?_
        refine z_aload_n (pc := 114) C dX5_step_114 rfl ?_
        refine gX5_22 (pc := 115) C dX5_step_115 hR.1 ?_
        refine z_eqi (y := nI 0) (by rw [up2_at, if_neg (by decide), up2_at, if_pos rfl]) ?_
        refine z_if_eqT (pc := 118) C 208 dX5_step_118 (by decide) (by decide) ?_
        exact z_vret (pc := 208) C ρ dX5_step_208 (⟨rfl, rfl, by simp only [up2_at, if_neg (show ¬ (3 : Nat) = 4 by decide), if_neg (show ¬ (3 : Nat) = 2 by decide)]; rw [h3, hs], by simp [up2_at]; rw [htk], by simp [up2_at]; rw [hte], fun j e2 e3 e4 => by simp only [up2_at, if_neg e2, if_neg e4]; exact hj j e3, fun c hcR => by simp only [up2_n _ _ _ hcR]; exact hc c hcR⟩)
      · by_cases hL : isLb (im (R + 1) s) = true
        · have hsrt : srt (im (R + 1)) T s = 1 := (srt_1 (by omega)).mpr hL
          have hte : rn (im (R + 1)) isLb (T - s) s = tE (im (R + 1)) T p := by rw [tE, ← hs, if_neg hsT, if_pos hL]
          have fin : ∀ (e : Nat) (im2 : Mem), e = tE (im (R + 1)) T p → e ≤ T ∧ s ≤ e → im2 R 2 = nI 1 → im2 R 3 = nI s → im2 R 4 = nI e → (∀ j, j ≠ 2 → j ≠ 3 → j ≠ 4 → im2 R j = im R j) → (∀ c, c ≠ R → im2 c = im c) → V E κ 4 0 0 160 [some (.ref R), some (.int (nI b)), some (.int (nI p)), y3] [] S im2 := by
            intro e im2 hee hle h2 h3 h4 hj2 hc2
            have htk1 : ¬ (b = 1 ∧ s = p) → tK (im (R + 1)) T p w = 1 := by intro h; rw [tK, ← hs, if_neg hsT, if_pos hL, if_neg (fun q => h ⟨by rw [hb, if_pos q.1], q.2⟩)]
            have htk4 : (b = 1 ∧ s = p) → tK (im (R + 1)) T p w = 4 := by intro h; rw [tK, ← hs, if_neg hsT, if_pos hL, if_pos ⟨by have h9 := h.1; rw [hb] at h9; cases w <;> simp at h9 ⊢, h.2⟩]
            refine z_aload_n (pc := 160) C dX5_step_160 rfl ?_
            refine gX5_22 (pc := 161) C dX5_step_161 hR.1 ?_
            refine z_eqi (y := nI 1) (h2) ?_
            refine z_iconstN (pc := 164) C 2 dX5_step_164 ?_
            refine z_icmp_neT (pc := 165) C 185 dX5_step_165 (by decide) (by decide) ?_
            refine z_iconstN (pc := 185) C 0 dX5_step_185 ?_
            refine z_istore_n (pc := 186) C dX5_step_186 (by decide) rfl ?_
            refine z_iload_n (pc := 187) C dX5_step_187 rfl ?_
            refine z_if_neF (pc := 188) C 203 dX5_step_188 (by decide) (by decide) ?_
            refine z_iload_n (pc := 191) C dX5_step_191 rfl ?_
            refine z_if_eqN (pc := 192) C 208 dX5_step_192 (by decide) (by omega) (fun c_192 => ?_) (fun c_192 => ?_)
            · 
              exact z_vret (pc := 208) C ρ dX5_step_208 (⟨rfl, rfl, by rw [h3, hs], by rw [h2, htk1 (by omega)], by rw [h4, hee], hj2, hc2⟩)
            · 
              refine z_aload_n (pc := 195) C dX5_step_195 rfl ?_
              refine gX5_59 (pc := 196) C dX5_step_196 hR.1 ?_
              refine z_eqi (y := nI s) (h3) ?_
              refine z_iload_n (pc := 199) C dX5_step_199 rfl ?_
              refine z_icmp_neN (pc := 200) C 208 dX5_step_200 (by decide) (by omega) (by omega) (fun c_200 => ?_) (fun c_200 => ?_)
              · 
                exact z_vret (pc := 208) C ρ dX5_step_208 (⟨rfl, rfl, by rw [h3, hs], by rw [h2, htk1 (by omega)], by rw [h4, hee], hj2, hc2⟩)
              · 
                refine z_aload_n (pc := 203) C dX5_step_203 rfl ?_
                refine z_iconstN (pc := 204) C 4 dX5_step_204 ?_
                refine pX5_22 (pc := 205) C dX5_step_205 hR.1 ?_
                exact z_vret (pc := 208) C ρ dX5_step_208 (⟨rfl, rfl, by rw [up2_at, if_neg (by decide), h3, hs], by rw [up2_at, if_pos rfl, htk4 (by omega)], by rw [up2_at, if_neg (by decide), h4, hee], fun j e2 e3 e4 => by rw [up2_at, if_neg e2]; exact hj2 j e2 e3 e4, fun c hcR => by rw [up2_n _ _ _ hcR]; exact hc2 c hcR⟩)
          have loop2 : ∀ (r e : Nat) (im2 : Mem), e + r = T → s ≤ e → rn (im (R + 1)) isLb (T - e) e = tE (im (R + 1)) T p → im2 R 2 = nI 1 → im2 R 3 = nI s → im2 R 4 = nI e → (∀ j, j ≠ 2 → j ≠ 3 → j ≠ 4 → im2 R j = im R j) → (∀ c, c ≠ R → im2 c = im c) → V E κ 4 0 0 121 [some (.ref R), some (.int (nI b)), some (.int (nI p)), y3] [] S im2 := by
            intro r
            induction r with
            | zero =>
              intro e im2 he hse hrn h2 h3 h4 hj2 hc2
              refine z_aload_n (pc := 121) C dX5_step_121 rfl ?_
              refine gX5_25 (pc := 122) C dX5_step_122 hR.1 ?_
              refine z_eqi (y := nI e) (h4) ?_
              refine z_aload_n (pc := 125) C dX5_step_125 rfl ?_
              refine gX5_18 (pc := 126) C dX5_step_126 hR.1 ?_
              refine z_eqi (y := nI T) (by rw [hj2 1 (by decide) (by decide) (by decide)]; exact hl) ?_
              refine z_icmp_geT (pc := 129) C 160 dX5_step_129 (by decide) (nI_le (by omega) (by omega)) ?_
              exact fin e im2 (by rw [Nat.sub_eq_zero_of_le (by omega)] at hrn; exact hrn) (by omega) h2 h3 h4 hj2 hc2
            | succ r ih =>
              intro e im2 he hse hrn h2 h3 h4 hj2 hc2
              refine z_aload_n (pc := 121) C dX5_step_121 rfl ?_
              refine gX5_25 (pc := 122) C dX5_step_122 hR.1 ?_
              refine z_eqi (y := nI e) (h4) ?_
              refine z_aload_n (pc := 125) C dX5_step_125 rfl ?_
              refine gX5_18 (pc := 126) C dX5_step_126 hR.1 ?_
              refine z_eqi (y := nI T) (by rw [hj2 1 (by decide) (by decide) (by decide)]; exact hl) ?_
              refine z_icmp_geF (pc := 129) C 160 dX5_step_129 (by decide) (nI_ge (by omega) (by omega)) ?_
              refine z_aload_n (pc := 132) C dX5_step_132 rfl ?_
              refine z_aload_n (pc := 133) C dX5_step_133 rfl ?_
              refine gX5_25 (pc := 134) C dX5_step_134 hR.1 ?_
              refine z_eqi (y := nI e) (h4) ?_
              refine kX5_62 (pc := 137) C dX5_step_137 (c5_sortAt κ.2.1 E S im2 R hR T hT (by rw [hj2 1 (by decide) (by decide) (by decide)]; exact hl) e (by omega)) hR.1 (by decide) (Nat.le_of_ble_eq_true rfl) (Nat.le_refl _) (Nat.le_refl _) (fun v_137 S_137 im_137 h_137 => ?_)
              obtain ⟨rfl, rfl, rfl⟩ := h_137
              refine z_eqi (y := nI (srt (im (R + 1)) T e)) (by rw [hc2 _ (by omega)]) ?_
              refine z_aload_n (pc := 140) C dX5_step_140 rfl ?_
              refine gX5_22 (pc := 141) C dX5_step_141 hR.1 ?_
              refine z_eqi (y := nI 1) (h2) ?_
              refine z_icmp_neN (pc := 144) C 160 dX5_step_144 (by decide) (by have := srt_le (im (R + 1)) T e; omega) (by omega) (fun c_144 => ?_) (fun c_144 => ?_)
              · 
                refine fin e im2 ?_ (by omega) h2 h3 h4 hj2 hc2
                rw [show T - e = (T - e - 1) + 1 by omega, rn, if_neg (fun h => c_144 ((srt_1 (by omega)).mpr h))] at hrn
                exact hrn
              · 
                refine z_aload_n (pc := 147) C dX5_step_147 rfl ?_
                refine z_dup (pc := 148) C dX5_step_148 rfl ?_
                refine gX5_25 (pc := 149) C dX5_step_149 hR.1 ?_
                refine z_eqi (y := nI e) (h4) ?_
                refine z_iconstN (pc := 152) C 1 dX5_step_152 ?_
                refine z_iaddN (pc := 153) C dX5_step_153 ?_
                refine pX5_25 (pc := 154) C dX5_step_154 hR.1 ?_
                refine z_goto (pc := 157) C 121 dX5_step_157 (by decide) ?_
                refine ih (e + 1) _ (by omega) (by omega) ?_ (by rw [up2_at, if_neg (by decide)]; exact h2) (by rw [up2_at, if_neg (by decide)]; exact h3) (by rw [up2_at, if_pos rfl]) (fun j e2 e3 e4 => by rw [up2_at, if_neg e4]; exact hj2 j e2 e3 e4) (fun c hcR => by rw [up2_n _ _ _ hcR]; exact hc2 c hcR)
                rw [show T - e = (T - (e + 1)) + 1 by omega, rn, if_pos ((srt_1 (by omega)).mp c_144)] at hrn
                exact hrn
          refine z_aload_n (pc := 73) C dX5_step_73 rfl ?_
          refine z_aload_n (pc := 74) C dX5_step_74 rfl ?_
          refine z_aload_n (pc := 75) C dX5_step_75 rfl ?_
          refine gX5_59 (pc := 76) C dX5_step_76 hR.1 ?_
          refine z_eqi (y := nI s) (h3) ?_
          refine kX5_62 (pc := 79) C dX5_step_79 (c5_sortAt κ.2.1 E S im' R hR T hT (by rw [hj 1 (by decide)]; exact hl) s (by omega)) hR.1 (by decide) (Nat.le_of_ble_eq_true rfl) (Nat.le_refl _) (Nat.le_refl _) (fun v_79 S_79 im_79 h_79 => ?_)
          obtain ⟨rfl, rfl, rfl⟩ := h_79
          refine z_eqi (y := nI 1) (by rw [hc _ (by omega), hsrt]) ?_
          refine pX5_22 (pc := 82) C dX5_step_82 hR.1 ?_
          refine z_aload_n (pc := 85) C dX5_step_85 rfl ?_
          refine z_aload_n (pc := 86) C dX5_step_86 rfl ?_
          refine gX5_59 (pc := 87) C dX5_step_87 hR.1 ?_
          refine z_eqi (y := nI s) (by rw [up2_at, if_neg (by decide)]; exact h3) ?_
          refine pX5_25 (pc := 90) C dX5_step_90 hR.1 ?_
          refine z_aload_n (pc := 93) C dX5_step_93 rfl ?_
          refine gX5_22 (pc := 94) C dX5_step_94 hR.1 ?_
          refine z_eqi (y := nI 1) (by rw [up2_at, if_neg (by decide), up2_at, if_pos rfl]) ?_
          refine z_iconstN (pc := 97) C 3 dX5_step_97 ?_
          refine z_icmp_neT (pc := 98) C 114 dX5_step_98 (by decide) (by decide) ?_
          refine z_aload_n (pc := 114) C dX5_step_114 rfl ?_
          refine gX5_22 (pc := 115) C dX5_step_115 hR.1 ?_
          refine z_eqi (y := nI 1) (by rw [up2_at, if_neg (by decide), up2_at, if_pos rfl]) ?_
          refine z_if_eqF (pc := 118) C 208 dX5_step_118 (by decide) (by decide) ?_
          refine loop2 (T - s) s _ (by omega) (by omega) ?_ (by simp [up2_at]) (by simp only [up2_at, if_neg (show ¬ (3 : Nat) = 4 by decide), if_neg (show ¬ (3 : Nat) = 2 by decide)]; exact h3) (by simp [up2_at]) (fun j e2 e3 e4 => by simp only [up2_at, if_neg e2, if_neg e4]; exact hj j e3) (fun c hcR => by simp only [up2_n _ _ _ hcR]; exact hc c hcR)
          exact hte
        · by_cases hD : isDb (im (R + 1) s) = true
          · have hsrt : srt (im (R + 1)) T s = 2 := (srt_2 (by omega)).mpr hD
            have hte : rn (im (R + 1)) isDb (T - s) s = tE (im (R + 1)) T p := by rw [tE, ← hs, if_neg hsT, if_neg hL, if_pos hD]
            have fin : ∀ (e : Nat) (im2 : Mem), e = tE (im (R + 1)) T p → e ≤ T ∧ s ≤ e → im2 R 2 = nI 2 → im2 R 3 = nI s → im2 R 4 = nI e → (∀ j, j ≠ 2 → j ≠ 3 → j ≠ 4 → im2 R j = im R j) → (∀ c, c ≠ R → im2 c = im c) → V E κ 4 0 0 160 [some (.ref R), some (.int (nI b)), some (.int (nI p)), y3] [] S im2 := by
              intro e im2 hee hle h2 h3 h4 hj2 hc2
              have htk1 : (¬ (b = 1 ∧ s = p)) ∧ e - s ≤ 4 → tK (im (R + 1)) T p w = 2 := by intro h; rw [tK, ← hs, ← hee, if_neg hsT, if_neg hL, if_pos hD, if_neg (fun q => h.1 ⟨by rw [hb, if_pos q.1], q.2⟩), if_pos h.2]
              have htk4 : (b = 1 ∧ s = p) ∨ ¬ e - s ≤ 4 → tK (im (R + 1)) T p w = 4 := by intro h; rw [tK, ← hs, ← hee, if_neg hsT, if_neg hL, if_pos hD]; by_cases q : w = true ∧ s = p; (rw [if_pos q]); rw [if_neg q, if_neg (h.resolve_left (fun z => q ⟨by have h9 := z.1; rw [hb] at h9; cases w <;> simp at h9 ⊢, z.2⟩))]
              refine z_aload_n (pc := 160) C dX5_step_160 rfl ?_
              refine gX5_22 (pc := 161) C dX5_step_161 hR.1 ?_
              refine z_eqi (y := nI 2) (h2) ?_
              refine z_iconstN (pc := 164) C 2 dX5_step_164 ?_
              refine z_icmp_neF (pc := 165) C 185 dX5_step_165 (by decide) (by decide) ?_
              refine z_aload_n (pc := 168) C dX5_step_168 rfl ?_
              refine gX5_25 (pc := 169) C dX5_step_169 hR.1 ?_
              refine z_eqi (y := nI e) (h4) ?_
              refine z_aload_n (pc := 172) C dX5_step_172 rfl ?_
              refine gX5_59 (pc := 173) C dX5_step_173 hR.1 ?_
              refine z_eqi (y := nI s) (h3) ?_
              refine z_isubN (pc := 176) C dX5_step_176 (by omega) ?_
              refine z_iconstN (pc := 177) C 4 dX5_step_177 ?_
              refine z_icmp_leN (pc := 178) C 185 dX5_step_178 (by decide) (by omega) (by omega) (fun c_178 => ?_) (fun c_178 => ?_)
              · 
                refine z_iconstN (pc := 185) C 0 dX5_step_185 ?_
                refine z_istore_n (pc := 186) C dX5_step_186 (by decide) rfl ?_
                refine z_iload_n (pc := 187) C dX5_step_187 rfl ?_
                refine z_if_neF (pc := 188) C 203 dX5_step_188 (by decide) (by decide) ?_
                refine z_iload_n (pc := 191) C dX5_step_191 rfl ?_
                refine z_if_eqN (pc := 192) C 208 dX5_step_192 (by decide) (by omega) (fun c_192 => ?_) (fun c_192 => ?_)
                · 
                  exact z_vret (pc := 208) C ρ dX5_step_208 (⟨rfl, rfl, by rw [h3, hs], by rw [h2, htk1 (by omega)], by rw [h4, hee], hj2, hc2⟩)
                · 
                  refine z_aload_n (pc := 195) C dX5_step_195 rfl ?_
                  refine gX5_59 (pc := 196) C dX5_step_196 hR.1 ?_
                  refine z_eqi (y := nI s) (h3) ?_
                  refine z_iload_n (pc := 199) C dX5_step_199 rfl ?_
                  refine z_icmp_neN (pc := 200) C 208 dX5_step_200 (by decide) (by omega) (by omega) (fun c_200 => ?_) (fun c_200 => ?_)
                  · 
                    exact z_vret (pc := 208) C ρ dX5_step_208 (⟨rfl, rfl, by rw [h3, hs], by rw [h2, htk1 (by omega)], by rw [h4, hee], hj2, hc2⟩)
                  · 
                    refine z_aload_n (pc := 203) C dX5_step_203 rfl ?_
                    refine z_iconstN (pc := 204) C 4 dX5_step_204 ?_
                    refine pX5_22 (pc := 205) C dX5_step_205 hR.1 ?_
                    exact z_vret (pc := 208) C ρ dX5_step_208 (⟨rfl, rfl, by rw [up2_at, if_neg (by decide), h3, hs], by rw [up2_at, if_pos rfl, htk4 (by omega)], by rw [up2_at, if_neg (by decide), h4, hee], fun j e2 e3 e4 => by rw [up2_at, if_neg e2]; exact hj2 j e2 e3 e4, fun c hcR => by rw [up2_n _ _ _ hcR]; exact hc2 c hcR⟩)
              · 
                refine z_iconstN (pc := 181) C 1 dX5_step_181 ?_
                refine z_goto (pc := 182) C 186 dX5_step_182 (by decide) ?_
                refine z_istore_n (pc := 186) C dX5_step_186 (by decide) rfl ?_
                refine z_iload_n (pc := 187) C dX5_step_187 rfl ?_
                refine z_if_neT (pc := 188) C 203 dX5_step_188 (by decide) (by decide) ?_
                refine z_aload_n (pc := 203) C dX5_step_203 rfl ?_
                refine z_iconstN (pc := 204) C 4 dX5_step_204 ?_
                refine pX5_22 (pc := 205) C dX5_step_205 hR.1 ?_
                exact z_vret (pc := 208) C ρ dX5_step_208 (⟨rfl, rfl, by rw [up2_at, if_neg (by decide), h3, hs], by rw [up2_at, if_pos rfl, htk4 (by omega)], by rw [up2_at, if_neg (by decide), h4, hee], fun j e2 e3 e4 => by rw [up2_at, if_neg e2]; exact hj2 j e2 e3 e4, fun c hcR => by rw [up2_n _ _ _ hcR]; exact hc2 c hcR⟩)
            have loop2 : ∀ (r e : Nat) (im2 : Mem), e + r = T → s ≤ e → rn (im (R + 1)) isDb (T - e) e = tE (im (R + 1)) T p → im2 R 2 = nI 2 → im2 R 3 = nI s → im2 R 4 = nI e → (∀ j, j ≠ 2 → j ≠ 3 → j ≠ 4 → im2 R j = im R j) → (∀ c, c ≠ R → im2 c = im c) → V E κ 4 0 0 121 [some (.ref R), some (.int (nI b)), some (.int (nI p)), y3] [] S im2 := by
              intro r
              induction r with
              | zero =>
                intro e im2 he hse hrn h2 h3 h4 hj2 hc2
                refine z_aload_n (pc := 121) C dX5_step_121 rfl ?_
                refine gX5_25 (pc := 122) C dX5_step_122 hR.1 ?_
                refine z_eqi (y := nI e) (h4) ?_
                refine z_aload_n (pc := 125) C dX5_step_125 rfl ?_
                refine gX5_18 (pc := 126) C dX5_step_126 hR.1 ?_
                refine z_eqi (y := nI T) (by rw [hj2 1 (by decide) (by decide) (by decide)]; exact hl) ?_
                refine z_icmp_geT (pc := 129) C 160 dX5_step_129 (by decide) (nI_le (by omega) (by omega)) ?_
                exact fin e im2 (by rw [Nat.sub_eq_zero_of_le (by omega)] at hrn; exact hrn) (by omega) h2 h3 h4 hj2 hc2
              | succ r ih =>
                intro e im2 he hse hrn h2 h3 h4 hj2 hc2
                refine z_aload_n (pc := 121) C dX5_step_121 rfl ?_
                refine gX5_25 (pc := 122) C dX5_step_122 hR.1 ?_
                refine z_eqi (y := nI e) (h4) ?_
                refine z_aload_n (pc := 125) C dX5_step_125 rfl ?_
                refine gX5_18 (pc := 126) C dX5_step_126 hR.1 ?_
                refine z_eqi (y := nI T) (by rw [hj2 1 (by decide) (by decide) (by decide)]; exact hl) ?_
                refine z_icmp_geF (pc := 129) C 160 dX5_step_129 (by decide) (nI_ge (by omega) (by omega)) ?_
                refine z_aload_n (pc := 132) C dX5_step_132 rfl ?_
                refine z_aload_n (pc := 133) C dX5_step_133 rfl ?_
                refine gX5_25 (pc := 134) C dX5_step_134 hR.1 ?_
                refine z_eqi (y := nI e) (h4) ?_
                refine kX5_62 (pc := 137) C dX5_step_137 (c5_sortAt κ.2.1 E S im2 R hR T hT (by rw [hj2 1 (by decide) (by decide) (by decide)]; exact hl) e (by omega)) hR.1 (by decide) (Nat.le_of_ble_eq_true rfl) (Nat.le_refl _) (Nat.le_refl _) (fun v_137 S_137 im_137 h_137 => ?_)
                obtain ⟨rfl, rfl, rfl⟩ := h_137
                refine z_eqi (y := nI (srt (im (R + 1)) T e)) (by rw [hc2 _ (by omega)]) ?_
                refine z_aload_n (pc := 140) C dX5_step_140 rfl ?_
                refine gX5_22 (pc := 141) C dX5_step_141 hR.1 ?_
                refine z_eqi (y := nI 2) (h2) ?_
                refine z_icmp_neN (pc := 144) C 160 dX5_step_144 (by decide) (by have := srt_le (im (R + 1)) T e; omega) (by omega) (fun c_144 => ?_) (fun c_144 => ?_)
                · 
                  refine fin e im2 ?_ (by omega) h2 h3 h4 hj2 hc2
                  rw [show T - e = (T - e - 1) + 1 by omega, rn, if_neg (fun h => c_144 ((srt_2 (by omega)).mpr h))] at hrn
                  exact hrn
                · 
                  refine z_aload_n (pc := 147) C dX5_step_147 rfl ?_
                  refine z_dup (pc := 148) C dX5_step_148 rfl ?_
                  refine gX5_25 (pc := 149) C dX5_step_149 hR.1 ?_
                  refine z_eqi (y := nI e) (h4) ?_
                  refine z_iconstN (pc := 152) C 1 dX5_step_152 ?_
                  refine z_iaddN (pc := 153) C dX5_step_153 ?_
                  refine pX5_25 (pc := 154) C dX5_step_154 hR.1 ?_
                  refine z_goto (pc := 157) C 121 dX5_step_157 (by decide) ?_
                  refine ih (e + 1) _ (by omega) (by omega) ?_ (by rw [up2_at, if_neg (by decide)]; exact h2) (by rw [up2_at, if_neg (by decide)]; exact h3) (by rw [up2_at, if_pos rfl]) (fun j e2 e3 e4 => by rw [up2_at, if_neg e4]; exact hj2 j e2 e3 e4) (fun c hcR => by rw [up2_n _ _ _ hcR]; exact hc2 c hcR)
                  rw [show T - e = (T - (e + 1)) + 1 by omega, rn, if_pos ((srt_2 (by omega)).mp c_144)] at hrn
                  exact hrn
            refine z_aload_n (pc := 73) C dX5_step_73 rfl ?_
            refine z_aload_n (pc := 74) C dX5_step_74 rfl ?_
            refine z_aload_n (pc := 75) C dX5_step_75 rfl ?_
            refine gX5_59 (pc := 76) C dX5_step_76 hR.1 ?_
            refine z_eqi (y := nI s) (h3) ?_
            refine kX5_62 (pc := 79) C dX5_step_79 (c5_sortAt κ.2.1 E S im' R hR T hT (by rw [hj 1 (by decide)]; exact hl) s (by omega)) hR.1 (by decide) (Nat.le_of_ble_eq_true rfl) (Nat.le_refl _) (Nat.le_refl _) (fun v_79 S_79 im_79 h_79 => ?_)
            obtain ⟨rfl, rfl, rfl⟩ := h_79
            refine z_eqi (y := nI 2) (by rw [hc _ (by omega), hsrt]) ?_
            refine pX5_22 (pc := 82) C dX5_step_82 hR.1 ?_
            refine z_aload_n (pc := 85) C dX5_step_85 rfl ?_
            refine z_aload_n (pc := 86) C dX5_step_86 rfl ?_
            refine gX5_59 (pc := 87) C dX5_step_87 hR.1 ?_
            refine z_eqi (y := nI s) (by rw [up2_at, if_neg (by decide)]; exact h3) ?_
            refine pX5_25 (pc := 90) C dX5_step_90 hR.1 ?_
            refine z_aload_n (pc := 93) C dX5_step_93 rfl ?_
            refine gX5_22 (pc := 94) C dX5_step_94 hR.1 ?_
            refine z_eqi (y := nI 2) (by rw [up2_at, if_neg (by decide), up2_at, if_pos rfl]) ?_
            refine z_iconstN (pc := 97) C 3 dX5_step_97 ?_
            refine z_icmp_neT (pc := 98) C 114 dX5_step_98 (by decide) (by decide) ?_
            refine z_aload_n (pc := 114) C dX5_step_114 rfl ?_
            refine gX5_22 (pc := 115) C dX5_step_115 hR.1 ?_
            refine z_eqi (y := nI 2) (by rw [up2_at, if_neg (by decide), up2_at, if_pos rfl]) ?_
            refine z_if_eqF (pc := 118) C 208 dX5_step_118 (by decide) (by decide) ?_
            refine loop2 (T - s) s _ (by omega) (by omega) ?_ (by simp [up2_at]) (by simp only [up2_at, if_neg (show ¬ (3 : Nat) = 4 by decide), if_neg (show ¬ (3 : Nat) = 2 by decide)]; exact h3) (by simp [up2_at]) (fun j e2 e3 e4 => by simp only [up2_at, if_neg e2, if_neg e4]; exact hj j e3) (fun c hcR => by simp only [up2_n _ _ _ hcR]; exact hc c hcR)
            exact hte
          · have hsrt : srt (im (R + 1)) T s = 3 := by rw [srt, if_pos (by omega), if_neg hL, if_neg hD]
            have htk : tK (im (R + 1)) T p w = 3 := by rw [tK, ← hs, if_neg hsT, if_neg hL, if_neg hD]
            have hte : tE (im (R + 1)) T p = s + 1 := by rw [tE, ← hs, if_neg hsT, if_neg hL, if_neg hD]
            refine z_aload_n (pc := 73) C dX5_step_73 rfl ?_
            refine z_aload_n (pc := 74) C dX5_step_74 rfl ?_
            refine z_aload_n (pc := 75) C dX5_step_75 rfl ?_
            refine gX5_59 (pc := 76) C dX5_step_76 hR.1 ?_
            refine z_eqi (y := nI s) (h3) ?_
            refine kX5_62 (pc := 79) C dX5_step_79 (c5_sortAt κ.2.1 E S im' R hR T hT (by rw [hj 1 (by decide)]; exact hl) s (by omega)) hR.1 (by decide) (Nat.le_of_ble_eq_true rfl) (Nat.le_refl _) (Nat.le_refl _) (fun v_79 S_79 im_79 h_79 => ?_)
            obtain ⟨rfl, rfl, rfl⟩ := h_79
            refine z_eqi (y := nI 3) (by rw [hc _ (by omega), hsrt]) ?_
            refine pX5_22 (pc := 82) C dX5_step_82 hR.1 ?_
            refine z_aload_n (pc := 85) C dX5_step_85 rfl ?_
            refine z_aload_n (pc := 86) C dX5_step_86 rfl ?_
            refine gX5_59 (pc := 87) C dX5_step_87 hR.1 ?_
            refine z_eqi (y := nI s) (by rw [up2_at, if_neg (by decide)]; exact h3) ?_
            refine pX5_25 (pc := 90) C dX5_step_90 hR.1 ?_
            refine z_aload_n (pc := 93) C dX5_step_93 rfl ?_
            refine gX5_22 (pc := 94) C dX5_step_94 hR.1 ?_
            refine z_eqi (y := nI 3) (by rw [up2_at, if_neg (by decide), up2_at, if_pos rfl]) ?_
            refine z_iconstN (pc := 97) C 3 dX5_step_97 ?_
            refine z_icmp_neF (pc := 98) C 114 dX5_step_98 (by decide) (by decide) ?_
            refine z_aload_n (pc := 101) C dX5_step_101 rfl ?_
            refine z_dup (pc := 102) C dX5_step_102 rfl ?_
            refine gX5_25 (pc := 103) C dX5_step_103 hR.1 ?_
            refine z_eqi (y := nI s) (by rw [up2_at, if_pos rfl]) ?_
            refine z_iconstN (pc := 106) C 1 dX5_step_106 ?_
            refine z_iaddN (pc := 107) C dX5_step_107 ?_
            refine pX5_25 (pc := 108) C dX5_step_108 hR.1 ?_
            refine z_goto (pc := 111) C 208 dX5_step_111 (by decide) ?_
            exact z_vret (pc := 208) C ρ dX5_step_208 (⟨rfl, rfl, by simp only [up2_at, if_neg (show ¬ (3 : Nat) = 4 by decide), if_neg (show ¬ (3 : Nat) = 2 by decide)]; rw [h3, hs], by simp [up2_at]; rw [htk], by simp [up2_at]; rw [hte], fun j e2 e3 e4 => by simp only [up2_at, if_neg e2, if_neg e4]; exact hj j e3, fun c hcR => by simp only [up2_n _ _ _ hcR]; exact hc c hcR⟩)
    have loop1 : ∀ (r s : Nat) (im' : Mem), s + r = T → p ≤ s → rn (im (R + 1)) isSb (T - s) s = tS (im (R + 1)) T p → im' R 3 = nI s → (∀ j, j ≠ 3 → im' R j = im R j) → (∀ c, c ≠ R → im' c = im c) → V E κ 4 0 0 35 [some (.ref R), some (.int (nI b)), some (.int (nI p)), y3] [] S im' := by
      intro r
      induction r with
      | zero =>
        intro s im' hsr hps hrn h3 hj hc
        refine z_aload_n (pc := 35) C dX5_step_35 rfl ?_
        refine gX5_59 (pc := 36) C dX5_step_36 hR.1 ?_
        refine z_eqi (y := nI s) (h3) ?_
        refine z_aload_n (pc := 39) C dX5_step_39 rfl ?_
        refine gX5_18 (pc := 40) C dX5_step_40 hR.1 ?_
        refine z_eqi (y := nI T) (by rw [hj 1 (by decide)]; exact hl) ?_
        refine z_icmp_geT (pc := 43) C 73 dX5_step_43 (by decide) (nI_le (by omega) (by omega)) ?_
        exact at73 s im' (by rw [Nat.sub_eq_zero_of_le (by omega)] at hrn; exact hrn) hps (by omega) h3 hj hc
      | succ r ih =>
        intro s im' hsr hps hrn h3 hj hc
        refine z_aload_n (pc := 35) C dX5_step_35 rfl ?_
        refine gX5_59 (pc := 36) C dX5_step_36 hR.1 ?_
        refine z_eqi (y := nI s) (h3) ?_
        refine z_aload_n (pc := 39) C dX5_step_39 rfl ?_
        refine gX5_18 (pc := 40) C dX5_step_40 hR.1 ?_
        refine z_eqi (y := nI T) (by rw [hj 1 (by decide)]; exact hl) ?_
        refine z_icmp_geF (pc := 43) C 73 dX5_step_43 (by decide) (nI_ge (by omega) (by omega)) ?_
        refine z_aload_n (pc := 46) C dX5_step_46 rfl ?_
        refine gX5_9 (pc := 47) C dX5_step_47 hR.1 hR.2.1 ?_
        refine z_aload_n (pc := 50) C dX5_step_50 rfl ?_
        refine gX5_59 (pc := 51) C dX5_step_51 hR.1 ?_
        refine z_eqi (y := nI s) (h3) ?_
        refine z_iald (pc := 54) C dX5_step_54 hR.2.2.2.1.1 hR.2.2.2.1.2 (by omega) (by decide) ?_
        refine z_eqi (y := (im (R + 1)) s) (by rw [hc _ (by omega)]) ?_
        refine z_bipushN (pc := 55) C 32 (by decide) dX5_step_55 ?_
        refine z_icmp_ne (pc := 57) C 73 dX5_step_57 (by decide) (fun c_57 => ?_) (fun c_57 => ?_)
        · 
          refine at73 s im' ?_ hps (by omega) h3 hj hc
          rw [show T - s = (T - s - 1) + 1 by omega, rn, if_neg (fun h => c_57 (sb_iff.mp h))] at hrn
          exact hrn
        · 
          refine z_aload_n (pc := 60) C dX5_step_60 rfl ?_
          refine z_dup (pc := 61) C dX5_step_61 rfl ?_
          refine gX5_59 (pc := 62) C dX5_step_62 hR.1 ?_
          refine z_eqi (y := nI s) (h3) ?_
          refine z_iconstN (pc := 65) C 1 dX5_step_65 ?_
          refine z_iaddN (pc := 66) C dX5_step_66 ?_
          refine pX5_59 (pc := 67) C dX5_step_67 hR.1 ?_
          refine z_goto (pc := 70) C 35 dX5_step_70 (by decide) ?_
          refine ih (s + 1) _ (by omega) (by omega) ?_ (by rw [up2_at, if_pos rfl]) (fun j e => by rw [up2_at, if_neg e]; exact hj j e) (fun c hcR => by rw [up2_n _ _ _ hcR]; exact hc c hcR)
          rw [show T - s = (T - (s + 1)) + 1 by omega, rn, if_pos (sb_iff.mpr c_57)] at hrn
          exact hrn
    subst hy3
    refine z_istore_n (pc := 21) C dX5_step_21 (by decide) rfl ?_
    refine z_aload_n (pc := 22) C dX5_step_22 rfl ?_
    refine gX5_25 (pc := 23) C dX5_step_23 hR.1 ?_
    refine z_eqi (y := nI p) (he) ?_
    refine z_istore_n (pc := 26) C dX5_step_26 (by decide) rfl ?_
    refine z_aload_n (pc := 27) C dX5_step_27 rfl ?_
    refine z_aload_n (pc := 28) C dX5_step_28 rfl ?_
    refine gX5_25 (pc := 29) C dX5_step_29 hR.1 ?_
    refine z_eqi (y := nI p) (he) ?_
    refine pX5_59 (pc := 32) C dX5_step_32 hR.1 ?_
    exact loop1 (T - p) p _ (by omega) (Nat.le_refl _) rfl (by rw [up2_at, if_pos rfl]) (fun j e => by rw [up2_at, if_neg e]) (fun c hcR => up2_n _ _ _ hcR)
  refine z_aload_n (pc := 0) C dX5_step_0 rfl ?_
  refine gX5_22 (pc := 1) C dX5_step_1 hR.1 ?_
  refine z_iconstN (pc := 4) C 1 dX5_step_4 ?_
  refine z_icmp_eq (pc := 5) C 16 dX5_step_5 (by decide) (fun c_5 => ?_) (fun c_5 => ?_)
  · 
    refine z_iconstN (pc := 16) C 1 dX5_step_16 ?_
    refine z_goto (pc := 17) C 21 dX5_step_17 (by decide) ?_
    exact tail 1 (by rw [if_pos (hw.mp (Or.inl c_5))])
  · 
    refine z_aload_n (pc := 8) C dX5_step_8 rfl ?_
    refine gX5_22 (pc := 9) C dX5_step_9 hR.1 ?_
    refine z_iconstN (pc := 12) C 2 dX5_step_12 ?_
    refine z_icmp_ne (pc := 13) C 20 dX5_step_13 (by decide) (fun c_13 => ?_) (fun c_13 => ?_)
    · 
      refine z_iconstN (pc := 20) C 0 dX5_step_20 ?_
      exact tail 0 (by rw [if_neg (fun h => (hw.mpr h).elim c_5 c_13)])
    · 
      refine z_iconstN (pc := 16) C 1 dX5_step_16 ?_
      refine z_goto (pc := 17) C 21 dX5_step_17 (by decide) ?_
      exact tail 1 (by rw [if_pos (hw.mp (Or.inr c_13))])
