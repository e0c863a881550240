/-! the class: the reader, its small methods -/
/-- the reader looks at what stands behind place p; w: a word ended there -/
def TkC (im : Mem) (R T p : Nat) (w : Bool) : Prop := im R 3 = nI (tS (im (R + 1)) T p) ∧ im R 2 = nI (tK (im (R + 1)) T p w) ∧ im R 4 = nI (tE (im (R + 1)) T p)
theorem tk_lt {a : Nat → Int32} {T p : Nat} {w : Bool} (hp : p ≤ T) (h : ¬ tK a T p w = 0) : tS a T p < T := by
  have h1 := tS_le (a := a) hp
  have h2 : ¬ tS a T p = T := fun e => h (by rw [tK, if_pos e])
  omega
theorem tv_3 {a : Nat → Int32} {T p : Nat} {w : Bool} (h : tK a T p w = 3) : tV a T p = a (tS a T p) := by
  have h2 := tK3 h
  rw [tK, if_neg h2] at h
  rw [tV]
  by_cases hL : isLb (a (tS a T p)) = true
  · rw [if_pos hL] at h; split at h <;> omega
  · rw [if_neg hL] at h
    by_cases hD : isDb (a (tS a T p)) = true
    · rw [if_pos hD] at h; split at h
      · omega
      · split at h <;> omega
    · rw [if_neg hD]
theorem tv_1 {a : Nat → Int32} {T p : Nat} {w : Bool} (h : tK a T p w = 1) : tV a T p = a (tS a T p) ∧ isLb (a (tS a T p)) = true := by
  have h2 := (tK12 (Or.inl h)).1
  rw [tK, if_neg h2] at h
  by_cases hL : isLb (a (tS a T p)) = true
  · rw [tV, L_notD hL]; exact ⟨rfl, hL⟩
  · rw [if_neg hL] at h
    exfalso
    by_cases hD : isDb (a (tS a T p)) = true
    · rw [if_pos hD] at h; split at h
      · omega
      · split at h <;> omega
    · rw [if_neg hD] at h; omega
theorem tk_w {a : Nat → Int32} {T p : Nat} {w : Bool} (h4 : ¬ tK a T p w = 4) : (nI (tK a T p w) = nI 1 ∨ nI (tK a T p w) = nI 2) ↔ tWb a T p = true := by
  have hle := tK_le a T p w
  rw [nI_eq (by omega) (by omega), nI_eq (by omega) (by omega)]
  constructor
  · intro h; exact (tK12 h).2
  · intro h
    have hw := tWb_iff.mp h
    obtain ⟨h1, h2⟩ := hw
    unfold tK at h4 ⊢
    rw [if_neg h1] at h4 ⊢
    by_cases hL : isLb (a (tS a T p)) = true
    · rw [if_pos hL] at h4 ⊢; split at h4
      · exact absurd rfl h4
      · rename_i q; rw [if_neg q]; exact Or.inl rfl
    · rw [if_neg hL] at h4 ⊢
      have hD := h2.resolve_left hL
      rw [if_pos hD] at h4 ⊢; split at h4
      · exact absurd rfl h4
      · rename_i q; rw [if_neg q]; split at h4
        · rename_i q2; rw [if_pos q2]; exact Or.inr rfl
        · exact absurd rfl h4
set_option maxRecDepth 100000 in
set_option maxHeartbeats 4000000 in
theorem c5_isSign (l : Launch) (E : Ex) (S : Sx) (im : Mem) (R : Nat) (hR : RLay S R) (T : Nat) (hT : T ≤ 96) (hl : im R 1 = nI T) (p : Nat) (hp : p ≤ T) (w : Bool) (hk : TkC im R T p w) (x : Int32) : Mt l E yX5_isSign cX5_isSign 2 (some .boolean) 1 0 0 [.ref R, .int x] S im (pI (pB S im (tK (im (R + 1)) T p w = 3 ∧ (im (R + 1)) (tS (im (R + 1)) T p) = x))) := by
  refine Mt.of (by decide +kernel) rfl rfl (Nat.le_of_ble_eq_true rfl) ?_
  intro κ hκ C ρ
  subst hκ
  show V E κ 2 0 0 0 [some (.ref R), some (.int x)] [] S im
  refine z_aload_n (pc := 0) C dX5_isSign_0 rfl ?_
  refine gX5_22 (pc := 1) C dX5_isSign_1 hR.1 ?_
  refine z_eqi (y := nI (tK (im (R + 1)) T p w)) (hk.2.1) ?_
  refine z_iconstN (pc := 4) C 3 dX5_isSign_4 ?_
  refine z_icmp_neN (pc := 5) C 25 dX5_isSign_5 (by decide) (by have := tK_le (im (R + 1)) T p w; omega) (by omega) (fun c_5 => ?_) (fun c_5 => ?_)
  · 
    refine z_iconstN (pc := 25) C 0 dX5_isSign_25 ?_
    exact z_zret (pc := 26) C ρ dX5_isSign_26 (by decide) (⟨_, rfl, Or.inr ⟨fun h => c_5 h.1, rfl, rfl, rfl⟩⟩)
  · 
    refine z_aload_n (pc := 8) C dX5_isSign_8 rfl ?_
    refine gX5_9 (pc := 9) C dX5_isSign_9 hR.1 hR.2.1 ?_
    refine z_aload_n (pc := 12) C dX5_isSign_12 rfl ?_
    refine gX5_59 (pc := 13) C dX5_isSign_13 hR.1 ?_
    refine z_eqi (y := nI (tS (im (R + 1)) T p)) (hk.1) ?_
    refine z_iald (pc := 16) C dX5_isSign_16 hR.2.2.2.1.1 hR.2.2.2.1.2 (by have := tk_lt (w := w) hp (show ¬ tK (im (R + 1)) T p w = 0 by omega); omega) (by decide) ?_
    refine z_iload_n (pc := 17) C dX5_isSign_17 rfl ?_
    refine z_icmp_ne (pc := 18) C 25 dX5_isSign_18 (by decide) (fun c_18 => ?_) (fun c_18 => ?_)
    · 
      refine z_iconstN (pc := 25) C 0 dX5_isSign_25 ?_
      exact z_zret (pc := 26) C ρ dX5_isSign_26 (by decide) (⟨_, rfl, Or.inr ⟨fun h => c_18 h.2, rfl, rfl, rfl⟩⟩)
    · 
      refine z_iconstN (pc := 21) C 1 dX5_isSign_21 ?_
      refine z_goto (pc := 22) C 26 dX5_isSign_22 (by decide) ?_
      exact z_zret (pc := 26) C ρ dX5_isSign_26 (by decide) (⟨_, rfl, Or.inl ⟨⟨c_5, c_18⟩, rfl, rfl, rfl⟩⟩)
/-- the class's step for the sign that is looked at, if it is one of this level -/
def wkV (a : Nat → Int32) (T l : Nat) (σ : RS) : Int32 := if r_wk a T l σ = 0 then nI 0 else cmC (r_wk a T l σ)
theorem wk_pos {a : Nat → Int32} {T lv : Nat} {σ : RS} {s : Int32} (hs : r_sg a T σ = s) (hrk : rk s = lv + 1) (h0 : ¬ s = 0) : wkV a T lv σ = cmC s := by
  rw [wkV, r_wk, hs, if_pos hrk, if_neg h0]
theorem wk_neg {a : Nat → Int32} {T l lv : Nat} {σ : RS} {s : Int32} (hs : r_sg a T σ = s) (hrk : rk s = lv + 1) (h : ¬ l = lv) : wkV a T l σ = nI 0 := by
  rw [wkV, r_wk, hs, if_neg (show ¬ rk s = l + 1 by omega), if_pos rfl]
theorem wk_zero {a : Nat → Int32} {T l : Nat} {σ : RS} (hs : r_sg a T σ = 0) : wkV a T l σ = nI 0 := by
  rw [wkV, r_wk, hs, ite_self, if_pos rfl]
set_option maxRecDepth 100000 in
set_option maxHeartbeats 4000000 in
theorem c5_workOf (l1 : Launch) (E : Ex) (S : Sx) (im : Mem) (R : Nat) (hR : RLay S R) (T : Nat) (hT : T ≤ 96) (hl : im R 1 = nI T) (σ : RS) (hp : σ.1 ≤ T) (hk : TkC im R T σ.1 σ.2.1) (l : Nat) (hl4 : l ≤ 4) : Mt l1 E yX5_workOf cX5_workOf 2 (some .int) 1 0 0 [.ref R, .int (nI l)] S im (pI (pE S im (wkV (im (R + 1)) T l σ))) := by
  refine Mt.of (by decide +kernel) rfl rfl (Nat.le_of_ble_eq_true rfl) ?_
  intro κ hκ C ρ
  subst hκ
  show V E κ 2 0 0 0 [some (.ref R), some (.int (nI l))] [] S im
  refine z_aload_n (pc := 0) C dX5_workOf_0 rfl ?_
  refine gX5_22 (pc := 1) C dX5_workOf_1 hR.1 ?_
  refine z_eqi (y := nI (tK (im (R + 1)) T σ.1 σ.2.1)) (hk.2.1) ?_
  refine z_iconstN (pc := 4) C 3 dX5_workOf_4 ?_
  refine z_icmp_eqN (pc := 5) C 10 dX5_workOf_5 (by decide) (by have := tK_le (im (R + 1)) T σ.1 σ.2.1; omega) (by omega) (fun c_5 => ?_) (fun c_5 => ?_)
  · 
    refine z_aload_n (pc := 10) C dX5_workOf_10 rfl ?_
    refine gX5_9 (pc := 11) C dX5_workOf_11 hR.1 hR.2.1 ?_
    refine z_aload_n (pc := 14) C dX5_workOf_14 rfl ?_
    refine gX5_59 (pc := 15) C dX5_workOf_15 hR.1 ?_
    refine z_eqi (y := nI (tS (im (R + 1)) T σ.1)) (hk.1) ?_
    refine z_iald (pc := 18) C dX5_workOf_18 hR.2.2.2.1.1 hR.2.2.2.1.2 (by have := tk_lt (w := σ.2.1) hp (show ¬ tK (im (R + 1)) T σ.1 σ.2.1 = 0 by omega); omega) (by decide) ?_
    by_cases hs_38 : im (R + 1) (tS (im (R + 1)) T σ.1) = nI 38
    · 
      refine z_eqi (y := nI 38) hs_38 ?_
      refine z_lookup (off := 92) (pc := 19) C 111 dX5_workOf_19 (by decide +kernel) (by decide +kernel) (by decide) ?_
      refine z_iload_n (pc := 111) C dX5_workOf_111 rfl ?_
      refine z_iconstN (pc := 112) C 1 dX5_workOf_112 ?_
      refine z_icmp_neN (pc := 113) C 121 dX5_workOf_113 (by decide) (by omega) (by omega) (fun c_113 => ?_) (fun c_113 => ?_)
      · 
        refine z_iconstN (pc := 121) C 0 dX5_workOf_121 ?_
        exact z_iret (pc := 122) C ρ dX5_workOf_122 (⟨_, rfl, wk_neg (lv := 1) (show r_sg (im (R + 1)) T σ = -2 by rw [r_sg, if_pos c_5, tv_3 c_5]; simp only [s_sign, if_pos hs_38]) (by decide) c_113, rfl, rfl⟩)
      · 
        refine z_bipush (v := -6) (pc := 116) C dX5_workOf_116 (by decide) ?_
        refine z_goto (pc := 118) C 122 dX5_workOf_118 (by decide) ?_
        exact z_iret (pc := 122) C ρ dX5_workOf_122 (⟨_, rfl, by rw [c_113, wk_pos (lv := 1) (show r_sg (im (R + 1)) T σ = -2 by rw [r_sg, if_pos c_5, tv_3 c_5]; simp only [s_sign, if_pos hs_38]) (by decide) (by decide)]; decide, rfl, rfl⟩)
    by_cases hs_42 : im (R + 1) (tS (im (R + 1)) T σ.1) = nI 42
    · 
      refine z_eqi (y := nI 42) hs_42 ?_
      refine z_lookup (off := 164) (pc := 19) C 183 dX5_workOf_19 (by decide +kernel) (by decide +kernel) (by decide) ?_
      refine z_iload_n (pc := 183) C dX5_workOf_183 rfl ?_
      refine z_iconstN (pc := 184) C 4 dX5_workOf_184 ?_
      refine z_icmp_neN (pc := 185) C 193 dX5_workOf_185 (by decide) (by omega) (by omega) (fun c_185 => ?_) (fun c_185 => ?_)
      · 
        refine z_iconstN (pc := 193) C 0 dX5_workOf_193 ?_
        exact z_iret (pc := 194) C ρ dX5_workOf_194 (⟨_, rfl, wk_neg (lv := 4) (show r_sg (im (R + 1)) T σ = -8 by rw [r_sg, if_pos c_5, tv_3 c_5]; simp only [s_sign, if_neg hs_38, if_pos hs_42]) (by decide) c_185, rfl, rfl⟩)
      · 
        refine z_bipush (v := -12) (pc := 188) C dX5_workOf_188 (by decide) ?_
        refine z_goto (pc := 190) C 194 dX5_workOf_190 (by decide) ?_
        exact z_iret (pc := 194) C ρ dX5_workOf_194 (⟨_, rfl, by rw [c_185, wk_pos (lv := 4) (show r_sg (im (R + 1)) T σ = -8 by rw [r_sg, if_pos c_5, tv_3 c_5]; simp only [s_sign, if_neg hs_38, if_pos hs_42]) (by decide) (by decide)]; decide, rfl, rfl⟩)
    by_cases hs_43 : im (R + 1) (tS (im (R + 1)) T σ.1) = nI 43
    · 
      refine z_eqi (y := nI 43) hs_43 ?_
      refine z_lookup (off := 140) (pc := 19) C 159 dX5_workOf_19 (by decide +kernel) (by decide +kernel) (by decide) ?_
      refine z_iload_n (pc := 159) C dX5_workOf_159 rfl ?_
      refine z_iconstN (pc := 160) C 3 dX5_workOf_160 ?_
      refine z_icmp_neN (pc := 161) C 169 dX5_workOf_161 (by decide) (by omega) (by omega) (fun c_161 => ?_) (fun c_161 => ?_)
      · 
        refine z_iconstN (pc := 169) C 0 dX5_workOf_169 ?_
        exact z_iret (pc := 170) C ρ dX5_workOf_170 (⟨_, rfl, wk_neg (lv := 3) (show r_sg (im (R + 1)) T σ = -6 by rw [r_sg, if_pos c_5, tv_3 c_5]; simp only [s_sign, if_neg hs_38, if_neg hs_42, if_pos hs_43]) (by decide) c_161, rfl, rfl⟩)
      · 
        refine z_bipush (v := -10) (pc := 164) C dX5_workOf_164 (by decide) ?_
        refine z_goto (pc := 166) C 170 dX5_workOf_166 (by decide) ?_
        exact z_iret (pc := 170) C ρ dX5_workOf_170 (⟨_, rfl, by rw [c_161, wk_pos (lv := 3) (show r_sg (im (R + 1)) T σ = -6 by rw [r_sg, if_pos c_5, tv_3 c_5]; simp only [s_sign, if_neg hs_38, if_neg hs_42, if_pos hs_43]) (by decide) (by decide)]; decide, rfl, rfl⟩)
    by_cases hs_45 : im (R + 1) (tS (im (R + 1)) T σ.1) = nI 45
    · 
      refine z_eqi (y := nI 45) hs_45 ?_
      refine z_lookup (off := 152) (pc := 19) C 171 dX5_workOf_19 (by decide +kernel) (by decide +kernel) (by decide) ?_
      refine z_iload_n (pc := 171) C dX5_workOf_171 rfl ?_
      refine z_iconstN (pc := 172) C 3 dX5_workOf_172 ?_
      refine z_icmp_neN (pc := 173) C 181 dX5_workOf_173 (by decide) (by omega) (by omega) (fun c_173 => ?_) (fun c_173 => ?_)
      · 
        refine z_iconstN (pc := 181) C 0 dX5_workOf_181 ?_
        exact z_iret (pc := 182) C ρ dX5_workOf_182 (⟨_, rfl, wk_neg (lv := 3) (show r_sg (im (R + 1)) T σ = -7 by rw [r_sg, if_pos c_5, tv_3 c_5]; simp only [s_sign, if_neg hs_38, if_neg hs_42, if_neg hs_43, if_pos hs_45]) (by decide) c_173, rfl, rfl⟩)
      · 
        refine z_bipush (v := -11) (pc := 176) C dX5_workOf_176 (by decide) ?_
        refine z_goto (pc := 178) C 182 dX5_workOf_178 (by decide) ?_
        exact z_iret (pc := 182) C ρ dX5_workOf_182 (⟨_, rfl, by rw [c_173, wk_pos (lv := 3) (show r_sg (im (R + 1)) T σ = -7 by rw [r_sg, if_pos c_5, tv_3 c_5]; simp only [s_sign, if_neg hs_38, if_neg hs_42, if_neg hs_43, if_pos hs_45]) (by decide) (by decide)]; decide, rfl, rfl⟩)
    by_cases hs_47 : im (R + 1) (tS (im (R + 1)) T σ.1) = nI 47
    · 
      refine z_eqi (y := nI 47) hs_47 ?_
      refine z_lookup (off := 176) (pc := 19) C 195 dX5_workOf_19 (by decide +kernel) (by decide +kernel) (by decide) ?_
      refine z_iload_n (pc := 195) C dX5_workOf_195 rfl ?_
      refine z_iconstN (pc := 196) C 4 dX5_workOf_196 ?_
      refine z_icmp_neN (pc := 197) C 205 dX5_workOf_197 (by decide) (by omega) (by omega) (fun c_197 => ?_) (fun c_197 => ?_)
      · 
        refine z_iconstN (pc := 205) C 0 dX5_workOf_205 ?_
        exact z_iret (pc := 206) C ρ dX5_workOf_206 (⟨_, rfl, wk_neg (lv := 4) (show r_sg (im (R + 1)) T σ = -9 by rw [r_sg, if_pos c_5, tv_3 c_5]; simp only [s_sign, if_neg hs_38, if_neg hs_42, if_neg hs_43, if_neg hs_45, if_pos hs_47]) (by decide) c_197, rfl, rfl⟩)
      · 
        refine z_bipush (v := -13) (pc := 200) C dX5_workOf_200 (by decide) ?_
        refine z_goto (pc := 202) C 206 dX5_workOf_202 (by decide) ?_
        exact z_iret (pc := 206) C ρ dX5_workOf_206 (⟨_, rfl, by rw [c_197, wk_pos (lv := 4) (show r_sg (im (R + 1)) T σ = -9 by rw [r_sg, if_pos c_5, tv_3 c_5]; simp only [s_sign, if_neg hs_38, if_neg hs_42, if_neg hs_43, if_neg hs_45, if_pos hs_47]) (by decide) (by decide)]; decide, rfl, rfl⟩)
    by_cases hs_60 : im (R + 1) (tS (im (R + 1)) T σ.1) = nI 60
    · 
      refine z_eqi (y := nI 60) hs_60 ?_
      refine z_lookup (off := 104) (pc := 19) C 123 dX5_workOf_19 (by decide +kernel) (by decide +kernel) (by decide) ?_
      refine z_iload_n (pc := 123) C dX5_workOf_123 rfl ?_
      refine z_iconstN (pc := 124) C 2 dX5_workOf_124 ?_
      refine z_icmp_neN (pc := 125) C 133 dX5_workOf_125 (by decide) (by omega) (by omega) (fun c_125 => ?_) (fun c_125 => ?_)
      · 
        refine z_iconstN (pc := 133) C 0 dX5_workOf_133 ?_
        exact z_iret (pc := 134) C ρ dX5_workOf_134 (⟨_, rfl, wk_neg (lv := 2) (show r_sg (im (R + 1)) T σ = -3 by rw [r_sg, if_pos c_5, tv_3 c_5]; simp only [s_sign, if_neg hs_38, if_neg hs_42, if_neg hs_43, if_neg hs_45, if_neg hs_47, if_pos hs_60]) (by decide) c_125, rfl, rfl⟩)
      · 
        refine z_bipush (v := -7) (pc := 128) C dX5_workOf_128 (by decide) ?_
        refine z_goto (pc := 130) C 134 dX5_workOf_130 (by decide) ?_
        exact z_iret (pc := 134) C ρ dX5_workOf_134 (⟨_, rfl, by rw [c_125, wk_pos (lv := 2) (show r_sg (im (R + 1)) T σ = -3 by rw [r_sg, if_pos c_5, tv_3 c_5]; simp only [s_sign, if_neg hs_38, if_neg hs_42, if_neg hs_43, if_neg hs_45, if_neg hs_47, if_pos hs_60]) (by decide) (by decide)]; decide, rfl, rfl⟩)
    by_cases hs_61 : im (R + 1) (tS (im (R + 1)) T σ.1) = nI 61
    · 
      refine z_eqi (y := nI 61) hs_61 ?_
      refine z_lookup (off := 116) (pc := 19) C 135 dX5_workOf_19 (by decide +kernel) (by decide +kernel) (by decide) ?_
      refine z_iload_n (pc := 135) C dX5_workOf_135 rfl ?_
      refine z_iconstN (pc := 136) C 2 dX5_workOf_136 ?_
      refine z_icmp_neN (pc := 137) C 145 dX5_workOf_137 (by decide) (by omega) (by omega) (fun c_137 => ?_) (fun c_137 => ?_)
      · 
        refine z_iconstN (pc := 145) C 0 dX5_workOf_145 ?_
        exact z_iret (pc := 146) C ρ dX5_workOf_146 (⟨_, rfl, wk_neg (lv := 2) (show r_sg (im (R + 1)) T σ = -4 by rw [r_sg, if_pos c_5, tv_3 c_5]; simp only [s_sign, if_neg hs_38, if_neg hs_42, if_neg hs_43, if_neg hs_45, if_neg hs_47, if_neg hs_60, if_pos hs_61]) (by decide) c_137, rfl, rfl⟩)
      · 
        refine z_bipush (v := -8) (pc := 140) C dX5_workOf_140 (by decide) ?_
        refine z_goto (pc := 142) C 146 dX5_workOf_142 (by decide) ?_
        exact z_iret (pc := 146) C ρ dX5_workOf_146 (⟨_, rfl, by rw [c_137, wk_pos (lv := 2) (show r_sg (im (R + 1)) T σ = -4 by rw [r_sg, if_pos c_5, tv_3 c_5]; simp only [s_sign, if_neg hs_38, if_neg hs_42, if_neg hs_43, if_neg hs_45, if_neg hs_47, if_neg hs_60, if_pos hs_61]) (by decide) (by decide)]; decide, rfl, rfl⟩)
    by_cases hs_62 : im (R + 1) (tS (im (R + 1)) T σ.1) = nI 62
    · 
      refine z_eqi (y := nI 62) hs_62 ?_
      refine z_lookup (off := 128) (pc := 19) C 147 dX5_workOf_19 (by decide +kernel) (by decide +kernel) (by decide) ?_
      refine z_iload_n (pc := 147) C dX5_workOf_147 rfl ?_
      refine z_iconstN (pc := 148) C 2 dX5_workOf_148 ?_
      refine z_icmp_neN (pc := 149) C 157 dX5_workOf_149 (by decide) (by omega) (by omega) (fun c_149 => ?_) (fun c_149 => ?_)
      · 
        refine z_iconstN (pc := 157) C 0 dX5_workOf_157 ?_
        exact z_iret (pc := 158) C ρ dX5_workOf_158 (⟨_, rfl, wk_neg (lv := 2) (show r_sg (im (R + 1)) T σ = -5 by rw [r_sg, if_pos c_5, tv_3 c_5]; simp only [s_sign, if_neg hs_38, if_neg hs_42, if_neg hs_43, if_neg hs_45, if_neg hs_47, if_neg hs_60, if_neg hs_61, if_pos hs_62]) (by decide) c_149, rfl, rfl⟩)
      · 
        refine z_bipush (v := -9) (pc := 152) C dX5_workOf_152 (by decide) ?_
        refine z_goto (pc := 154) C 158 dX5_workOf_154 (by decide) ?_
        exact z_iret (pc := 158) C ρ dX5_workOf_158 (⟨_, rfl, by rw [c_149, wk_pos (lv := 2) (show r_sg (im (R + 1)) T σ = -5 by rw [r_sg, if_pos c_5, tv_3 c_5]; simp only [s_sign, if_neg hs_38, if_neg hs_42, if_neg hs_43, if_neg hs_45, if_neg hs_47, if_neg hs_60, if_neg hs_61, if_pos hs_62]) (by decide) (by decide)]; decide, rfl, rfl⟩)
    by_cases hs_124 : im (R + 1) (tS (im (R + 1)) T σ.1) = nI 124
    · 
      refine z_eqi (y := nI 124) hs_124 ?_
      refine z_lookup (off := 81) (pc := 19) C 100 dX5_workOf_19 (by decide +kernel) (by decide +kernel) (by decide) ?_
      refine z_iload_n (pc := 100) C dX5_workOf_100 rfl ?_
      refine z_if_neN (pc := 101) C 109 dX5_workOf_101 (by decide) (by omega) (fun c_101 => ?_) (fun c_101 => ?_)
      · 
        refine z_iconstN (pc := 109) C 0 dX5_workOf_109 ?_
        exact z_iret (pc := 110) C ρ dX5_workOf_110 (⟨_, rfl, wk_neg (lv := 0) (show r_sg (im (R + 1)) T σ = -1 by rw [r_sg, if_pos c_5, tv_3 c_5]; simp only [s_sign, if_neg hs_38, if_neg hs_42, if_neg hs_43, if_neg hs_45, if_neg hs_47, if_neg hs_60, if_neg hs_61, if_neg hs_62, if_pos hs_124]) (by decide) c_101, rfl, rfl⟩)
      · 
        refine z_bipush (v := -5) (pc := 104) C dX5_workOf_104 (by decide) ?_
        refine z_goto (pc := 106) C 110 dX5_workOf_106 (by decide) ?_
        exact z_iret (pc := 110) C ρ dX5_workOf_110 (⟨_, rfl, by rw [c_101, wk_pos (lv := 0) (show r_sg (im (R + 1)) T σ = -1 by rw [r_sg, if_pos c_5, tv_3 c_5]; simp only [s_sign, if_neg hs_38, if_neg hs_42, if_neg hs_43, if_neg hs_45, if_neg hs_47, if_neg hs_60, if_neg hs_61, if_neg hs_62, if_pos hs_124]) (by decide) (by decide)]; decide, rfl, rfl⟩)
    refine z_lookup (pc := 19) C 207 dX5_workOf_19 (by decide +kernel) (off := 188) (by show Op.lookupswitch.offset [(38, 92), (42, 164), (43, 140), (45, 152), (47, 176), (60, 104), (61, 116), (62, 128), (124, 81)] 188 _ = _; rw [lv_osw hs_38 (show (nI 38 : Int32).toInt = 38 by decide), lv_osw hs_42 (show (nI 42 : Int32).toInt = 42 by decide), lv_osw hs_43 (show (nI 43 : Int32).toInt = 43 by decide), lv_osw hs_45 (show (nI 45 : Int32).toInt = 45 by decide), lv_osw hs_47 (show (nI 47 : Int32).toInt = 47 by decide), lv_osw hs_60 (show (nI 60 : Int32).toInt = 60 by decide), lv_osw hs_61 (show (nI 61 : Int32).toInt = 61 by decide), lv_osw hs_62 (show (nI 62 : Int32).toInt = 62 by decide), lv_osw hs_124 (show (nI 124 : Int32).toInt = 124 by decide)]; rfl) (by decide) ?_
    refine z_iconstN (pc := 207) C 0 dX5_workOf_207 ?_
    exact z_iret (pc := 208) C ρ dX5_workOf_208 (⟨_, rfl, wk_zero (by rw [r_sg, if_pos c_5, tv_3 c_5]; simp only [s_sign, if_pos c_5, if_neg hs_38, if_neg hs_42, if_neg hs_43, if_neg hs_45, if_neg hs_47, if_neg hs_60, if_neg hs_61, if_neg hs_62, if_neg hs_124]; rfl), rfl, rfl⟩)
  · 
    refine z_iconstN (pc := 8) C 0 dX5_workOf_8 ?_
    exact z_iret (pc := 9) C ρ dX5_workOf_9 (⟨_, rfl, wk_zero (by rw [r_sg, if_neg c_5]), rfl, rfl⟩)
set_option maxRecDepth 100000 in
set_option maxHeartbeats 4000000 in
theorem c5_numberHere (l : Launch) (E : Ex) (S : Sx) (im : Mem) (R : Nat) (hR : RLay S R) (s e : Nat) (hs : im R 3 = nI s) (he : im R 4 = nI e) (hse : s ≤ e) (he96 : e ≤ 96) (h4 : e - s ≤ 4) : Mt l E yX5_numberHere cX5_numberHere 3 (some .int) 1 0 0 [.ref R] S im (pI (pE S im (vl (im (R + 1)) s (e - s)))) := by
  refine Mt.of (by decide +kernel) rfl rfl (Nat.le_of_ble_eq_true rfl) ?_
  intro κ hκ C ρ
  subst hκ
  show V E κ 3 0 0 0 [some (.ref R), none, none] [] S im
  have loop : ∀ (r i : Nat), s + i + r = e → V E κ 3 0 0 7 [some (.ref R), some (.int (vl (im (R + 1)) s i)), some (.int (nI (s + i)))] [] S im := by
    intro r
    induction r with
    | zero =>
      intro i hi
      refine z_iload_n (pc := 7) C dX5_numberHere_7 rfl ?_
      refine z_aload_n (pc := 8) C dX5_numberHere_8 rfl ?_
      refine gX5_25 (pc := 9) C dX5_numberHere_9 hR.1 ?_
      refine z_eqi (y := nI e) (he) ?_
      refine z_icmp_geT (pc := 12) C 36 dX5_numberHere_12 (by decide) (nI_le (by omega) (by omega)) ?_
      refine z_iload_n (pc := 36) C dX5_numberHere_36 rfl ?_
      exact z_iret (pc := 37) C ρ dX5_numberHere_37 (⟨_, rfl, by rw [show e - s = i by omega], rfl, rfl⟩)
    | succ r ih =>
      intro i hi
      refine z_iload_n (pc := 7) C dX5_numberHere_7 rfl ?_
      refine z_aload_n (pc := 8) C dX5_numberHere_8 rfl ?_
      refine gX5_25 (pc := 9) C dX5_numberHere_9 hR.1 ?_
      refine z_eqi (y := nI e) (he) ?_
      refine z_icmp_geF (pc := 12) C 36 dX5_numberHere_12 (by decide) (nI_ge (by omega) (by omega)) ?_
      refine z_iload_n (pc := 15) C dX5_numberHere_15 rfl ?_
      refine z_bipushN (pc := 16) C 10 (by decide) dX5_numberHere_16 ?_
      refine z_imul (pc := 18) C dX5_numberHere_18 ?_
      refine z_aload_n (pc := 19) C dX5_numberHere_19 rfl ?_
      refine gX5_9 (pc := 20) C dX5_numberHere_20 hR.1 hR.2.1 ?_
      refine z_iload_n (pc := 23) C dX5_numberHere_23 rfl ?_
      refine z_iald (pc := 24) C dX5_numberHere_24 hR.2.2.2.1.1 hR.2.2.2.1.2 (by omega) (by decide) ?_
      refine z_iadd (pc := 25) C dX5_numberHere_25 ?_
      refine z_bipushN (pc := 26) C 48 (by decide) dX5_numberHere_26 ?_
      refine z_isub (pc := 28) C dX5_numberHere_28 ?_
      refine z_istore_n (pc := 29) C dX5_numberHere_29 (by decide) rfl ?_
      refine z_iincN (pc := 30) C 1 dX5_numberHere_30 rfl (by decide) rfl ?_
      refine z_goto (pc := 33) C 7 dX5_numberHere_33 (by decide) ?_
      have := ih (i + 1) (by omega)
      rw [vl, if_pos (by omega), Int32.mul_comm (nI 10)] at this
      exact this
  refine z_iconstN (pc := 0) C 0 dX5_numberHere_0 ?_
  refine z_istore_n (pc := 1) C dX5_numberHere_1 (by decide) rfl ?_
  refine z_aload_n (pc := 2) C dX5_numberHere_2 rfl ?_
  refine gX5_59 (pc := 3) C dX5_numberHere_3 hR.1 ?_
  refine z_eqi (y := nI s) (hs) ?_
  refine z_istore_n (pc := 6) C dX5_numberHere_6 (by decide) rfl ?_
  exact loop (e - s) 0 (by omega)
set_option maxRecDepth 100000 in
set_option maxHeartbeats 4000000 in
theorem c5_add (l : Launch) (E : Ex) (S : Sx) (im : Mem) (R : Nat) (hR : RLay S R) (c : Nat) (hc : c < 96) (h8 : im R 8 = nI c) (x : Int32) : Mt l E yX5_add cX5_add 2 none 1 0 0 [.ref R, .int x] S im (pV (pM S (up2 (up2 im (R + 2) c x) R 8 (nI (c + 1))))) := by
  refine Mt.of (by decide +kernel) rfl rfl (Nat.le_of_ble_eq_true rfl) ?_
  intro κ hκ C ρ
  subst hκ
  show V E κ 2 0 0 0 [some (.ref R), some (.int x)] [] S im
  refine z_aload_n (pc := 0) C dX5_add_0 rfl ?_
  refine gX5_31 (pc := 1) C dX5_add_1 hR.1 ?_
  refine z_eqi (y := nI c) (h8) ?_
  refine z_bipushN (pc := 4) C 96 (by decide) dX5_add_4 ?_
  refine z_icmp_geF (pc := 6) C 29 dX5_add_6 (by decide) (nI_ge (by omega) (by omega)) ?_
  refine z_aload_n (pc := 9) C dX5_add_9 rfl ?_
  refine gX5_15 (pc := 10) C dX5_add_10 hR.1 hR.2.2.1 ?_
  refine z_aload_n (pc := 13) C dX5_add_13 rfl ?_
  refine gX5_31 (pc := 14) C dX5_add_14 hR.1 ?_
  refine z_eqi (y := nI c) (h8) ?_
  refine z_iload_n (pc := 17) C dX5_add_17 rfl ?_
  refine z_iast (pc := 18) C dX5_add_18 hR.2.2.2.2.1 hR.2.2.2.2.2 (by omega) (by decide) ?_
  refine z_aload_n (pc := 19) C dX5_add_19 rfl ?_
  refine z_dup (pc := 20) C dX5_add_20 rfl ?_
  refine gX5_31 (pc := 21) C dX5_add_21 hR.1 ?_
  refine z_eqi (y := nI c) (by rw [up2_n _ _ _ (by omega)]; exact h8) ?_
  refine z_iconstN (pc := 24) C 1 dX5_add_24 ?_
  refine z_iaddN (pc := 25) C dX5_add_25 ?_
  refine pX5_31 (pc := 26) C dX5_add_26 hR.1 ?_
  exact z_vret (pc := 29) C ρ dX5_add_29 (⟨rfl, rfl, rfl⟩)
theorem kmB_all {a : Nat → Int32} {s w : Nat} : ∀ n, kmB a s w n = true ↔ ∀ j, j < n → a (s + j) = ky (kb w + j) := by
  intro n
  induction n with
  | zero => exact ⟨fun _ j h => absurd h (Nat.not_lt_zero _), fun _ => rfl⟩
  | succ n ih =>
    rw [kmB, Bool.and_eq_true, ih, decide_eq_true_iff]
    constructor
    · rintro ⟨h1, h2⟩ j hj
      by_cases e : j = n
      · rw [e]; exact h2
      · exact h1 j (by omega)
    · intro h; exact ⟨fun j hj => h j (by omega), h n (by omega)⟩
theorem ch_ky {i j : Nat} (hi : i < 3) (hj : j < lenS.getD i 0) : chS i j = ky (kb i + j) := by
  have h4 := len4 (i := i) (by omega)
  rcases (show i = 0 ∨ i = 1 ∨ i = 2 by omega) with rfl | rfl | rfl <;> rcases (show j = 0 ∨ j = 1 ∨ j = 2 ∨ j = 3 by omega) with rfl | rfl | rfl | rfl <;> first | rfl | exact absurd hj (by decide)
theorem len_kb {i : Nat} (hi : i < 3) : kb (i + 1) - kb i = lenS.getD i 0 := by
  rcases (show i = 0 ∨ i = 1 ∨ i = 2 by omega) with rfl | rfl | rfl <;> rfl
theorem kB_iff {a : Nat → Int32} {s e i : Nat} (hi : i < 3) : kB a s e i = true ↔ (lenS.getD i 0 = e - s ∧ ∀ j, j < lenS.getD i 0 → a (s + j) = chS i j) := by
  rw [kB, Bool.and_eq_true, decide_eq_true_iff, len_kb hi, kmB_all]
  exact ⟨fun h => ⟨h.1, fun j hj => by rw [ch_ky hi hj]; exact h.2 j hj⟩, fun h => ⟨h.1, fun j hj => by rw [← ch_ky hi hj]; exact h.2 j hj⟩⟩
set_option maxRecDepth 100000 in
set_option maxHeartbeats 4000000 in
theorem c5_isWord (l : Launch) (E : Ex) (S : Sx) (im : Mem) (R : Nat) (hR : RLay S R) (T : Nat) (hT : T ≤ 96) (hl : im R 1 = nI T) (p : Nat) (hp : p ≤ T) (w : Bool) (hk : TkC im R T p w) (i : Nat) (hi : i < 3) : Mt l E yX5_isWord cX5_isWord 3 (some .boolean) 5 0 0 [.ref R, .ref (E.2.2.2.2.1 i)] S im (pI (pB S im (tK (im (R + 1)) T p w = 1 ∧ kB (im (R + 1)) (tS (im (R + 1)) T p) (tE (im (R + 1)) T p) i = true))) := by
  refine Mt.of (by decide +kernel) rfl rfl (Nat.le_of_ble_eq_true rfl) ?_
  intro κ hκ C ρ
  subst hκ
  show V E κ 3 0 0 0 [some (.ref R), some (.ref (E.2.2.2.2.1 i)), none] [] S im
  have hi6 : i < 6 := by omega
  have h4 := len4 hi6
  have hts := tS_ge (im (R + 1)) T p
  have hte := tE_le (a := im (R + 1)) hp
  have loop : tK (im (R + 1)) T p w = 1 → tE (im (R + 1)) T p - tS (im (R + 1)) T p = lenS.getD i 0 → tS (im (R + 1)) T p < tE (im (R + 1)) T p → ∀ (r k : Nat), k + r = lenS.getD i 0 → (∀ j, j < k → (im (R + 1)) (tS (im (R + 1)) T p + j) = chS i j) → V E κ 3 0 0 28 [some (.ref R), some (.ref (E.2.2.2.2.1 i)), some (.int (nI k))] [] S im := by
    intro c_5 c_21 hlt r
    induction r with
    | zero =>
      intro k hk' hall
      refine z_iload_n (pc := 28) C dX5_isWord_28 rfl ?_
      refine z_aload_n (pc := 29) C dX5_isWord_29 rfl ?_
      refine z_cVS (pc := 30) (y := yJ0_length_8abf5) (As := []) (rest := [.int (nI k)]) (i := i) C hi6 rfl dX5_isWord_30 (j0_length κ.2.1 E S im i hi6) wm_X5_76 wi_J0_length_8abf5 ws_J0_J0_length_8abf5 wn_J0 wc_J0_length_8abf5 (show yJ0_length_8abf5.cls ≠ "java/lang/invoke/MethodHandle" ∧ yJ0_length_8abf5.cls ≠ "java/lang/invoke/VarHandle" ∧ (parseMethodDescriptor yJ0_length_8abf5.desc).map (fun d => d.parameters.length) = some 0 by decide +kernel) (by decide) (by decide) rfl (Nat.le_of_ble_eq_true rfl) (Nat.le_refl _) (Nat.le_refl _) (fun r_30 S_30 im_30 hr_30 => ?_)
      obtain ⟨v_30, rfl, h_30⟩ := hr_30
      obtain ⟨rfl, rfl, rfl⟩ := h_30
      show V E κ 3 0 0 33 [some (.ref R), some (.ref (E.2.2.2.2.1 i)), some (.int (nI k))] [.int (nI (lenS.getD i 0)), .int (nI k)] S im
      refine z_icmp_geT (pc := 33) C 63 dX5_isWord_33 (by decide) (nI_le (by omega) (by omega)) ?_
      refine z_iconstN (pc := 63) C 1 dX5_isWord_63 ?_
      exact z_zret (pc := 64) C ρ dX5_isWord_64 (by decide) (⟨_, rfl, Or.inl ⟨⟨c_5, (kB_iff hi).mpr ⟨c_21.symm, fun j hj => hall j (by omega)⟩⟩, rfl, rfl, rfl⟩⟩)
    | succ r ih =>
      intro k hk' hall
      refine z_iload_n (pc := 28) C dX5_isWord_28 rfl ?_
      refine z_aload_n (pc := 29) C dX5_isWord_29 rfl ?_
      refine z_cVS (pc := 30) (y := yJ0_length_8abf5) (As := []) (rest := [.int (nI k)]) (i := i) C hi6 rfl dX5_isWord_30 (j0_length κ.2.1 E S im i hi6) wm_X5_76 wi_J0_length_8abf5 ws_J0_J0_length_8abf5 wn_J0 wc_J0_length_8abf5 (show yJ0_length_8abf5.cls ≠ "java/lang/invoke/MethodHandle" ∧ yJ0_length_8abf5.cls ≠ "java/lang/invoke/VarHandle" ∧ (parseMethodDescriptor yJ0_length_8abf5.desc).map (fun d => d.parameters.length) = some 0 by decide +kernel) (by decide) (by decide) rfl (Nat.le_of_ble_eq_true rfl) (Nat.le_refl _) (Nat.le_refl _) (fun r_30 S_30 im_30 hr_30 => ?_)
      obtain ⟨v_30, rfl, h_30⟩ := hr_30
      obtain ⟨rfl, rfl, rfl⟩ := h_30
      show V E κ 3 0 0 33 [some (.ref R), some (.ref (E.2.2.2.2.1 i)), some (.int (nI k))] [.int (nI (lenS.getD i 0)), .int (nI k)] S im
      refine z_icmp_geF (pc := 33) C 63 dX5_isWord_33 (by decide) (nI_ge (by omega) (by omega)) ?_
      refine z_aload_n (pc := 36) C dX5_isWord_36 rfl ?_
      refine gX5_9 (pc := 37) C dX5_isWord_37 hR.1 hR.2.1 ?_
      refine z_aload_n (pc := 40) C dX5_isWord_40 rfl ?_
      refine gX5_59 (pc := 41) C dX5_isWord_41 hR.1 ?_
      refine z_eqi (y := nI (tS (im (R + 1)) T p)) (hk.1) ?_
      refine z_iload_n (pc := 44) C dX5_isWord_44 rfl ?_
      refine z_iaddN (pc := 45) C dX5_isWord_45 ?_
      refine z_iald (pc := 46) C dX5_isWord_46 hR.2.2.2.1.1 hR.2.2.2.1.2 (by omega) (by decide) ?_
      refine z_aload_n (pc := 47) C dX5_isWord_47 rfl ?_
      refine z_iload_n (pc := 48) C dX5_isWord_48 rfl ?_
      refine z_cVS (pc := 49) (y := yJ0_charAt_5068e) (As := [.int (nI k)]) (rest := [.int (im (R + 1) (tS (im (R + 1)) T p + k))]) (i := i) C hi6 rfl dX5_isWord_49 (j0_charAt κ.2.1 E S im i hi6 k (by omega)) wm_X5_80 wi_J0_charAt_5068e ws_J0_J0_charAt_5068e wn_J0 wc_J0_charAt_5068e (show yJ0_charAt_5068e.cls ≠ "java/lang/invoke/MethodHandle" ∧ yJ0_charAt_5068e.cls ≠ "java/lang/invoke/VarHandle" ∧ (parseMethodDescriptor yJ0_charAt_5068e.desc).map (fun d => d.parameters.length) = some 1 by decide +kernel) (by decide) (by decide) rfl (Nat.le_of_ble_eq_true rfl) (Nat.le_refl _) (Nat.le_refl _) (fun r_49 S_49 im_49 hr_49 => ?_)
      obtain ⟨v_49, rfl, h_49⟩ := hr_49
      obtain ⟨rfl, rfl, rfl⟩ := h_49
      show V E κ 3 0 0 52 [some (.ref R), some (.ref (E.2.2.2.2.1 i)), some (.int (nI k))] [.int (chS i k), .int (im (R + 1) (tS (im (R + 1)) T p + k))] S im
      refine z_icmp_eq (pc := 52) C 57 dX5_isWord_52 (by decide) (fun c_52 => ?_) (fun c_52 => ?_)
      · 
        refine z_iincN (pc := 57) C 1 dX5_isWord_57 rfl (by decide) rfl ?_
        refine z_goto (pc := 60) C 28 dX5_isWord_60 (by decide) ?_
        refine ih (k + 1) (by omega) (fun j hj => ?_)
        by_cases e : j = k
        · rw [e]; exact c_52
        · exact hall j (by omega)
      · 
        refine z_iconstN (pc := 55) C 0 dX5_isWord_55 ?_
        exact z_zret (pc := 56) C ρ dX5_isWord_56 (by decide) (⟨_, rfl, Or.inr ⟨fun h => c_52 (((kB_iff hi).mp h.2).2 k (by omega)), rfl, rfl, rfl⟩⟩)
  refine z_aload_n (pc := 0) C dX5_isWord_0 rfl ?_
  refine gX5_22 (pc := 1) C dX5_isWord_1 hR.1 ?_
  refine z_eqi (y := nI (tK (im (R + 1)) T p w)) (hk.2.1) ?_
  refine z_iconstN (pc := 4) C 1 dX5_isWord_4 ?_
  refine z_icmp_neN (pc := 5) C 24 dX5_isWord_5 (by decide) (by have := tK_le (im (R + 1)) T p w; omega) (by omega) (fun c_5 => ?_) (fun c_5 => ?_)
  · 
    refine z_iconstN (pc := 24) C 0 dX5_isWord_24 ?_
    exact z_zret (pc := 25) C ρ dX5_isWord_25 (by decide) (⟨_, rfl, Or.inr ⟨fun h => c_5 h.1, rfl, rfl, rfl⟩⟩)
  · 
    have hlt : tS (im (R + 1)) T p < tE (im (R + 1)) T p := tE_gt hp (tK12 (Or.inl c_5)).1
    refine z_aload_n (pc := 8) C dX5_isWord_8 rfl ?_
    refine gX5_25 (pc := 9) C dX5_isWord_9 hR.1 ?_
    refine z_eqi (y := nI (tE (im (R + 1)) T p)) (hk.2.2) ?_
    refine z_aload_n (pc := 12) C dX5_isWord_12 rfl ?_
    refine gX5_59 (pc := 13) C dX5_isWord_13 hR.1 ?_
    refine z_eqi (y := nI (tS (im (R + 1)) T p)) (hk.1) ?_
    refine z_isubN (pc := 16) C dX5_isWord_16 (by omega) ?_
    refine z_aload_n (pc := 17) C dX5_isWord_17 rfl ?_
    refine z_cVS (pc := 18) (y := yJ0_length_8abf5) (As := []) (rest := [.int (nI ((tE (im (R + 1)) T p) - (tS (im (R + 1)) T p)))]) (i := i) C hi6 rfl dX5_isWord_18 (j0_length κ.2.1 E S im i hi6) wm_X5_76 wi_J0_length_8abf5 ws_J0_J0_length_8abf5 wn_J0 wc_J0_length_8abf5 (show yJ0_length_8abf5.cls ≠ "java/lang/invoke/MethodHandle" ∧ yJ0_length_8abf5.cls ≠ "java/lang/invoke/VarHandle" ∧ (parseMethodDescriptor yJ0_length_8abf5.desc).map (fun d => d.parameters.length) = some 0 by decide +kernel) (by decide) (by decide) rfl (Nat.le_of_ble_eq_true rfl) (Nat.le_refl _) (Nat.le_refl _) (fun r_18 S_18 im_18 hr_18 => ?_)
    obtain ⟨v_18, rfl, h_18⟩ := hr_18
    obtain ⟨rfl, rfl, rfl⟩ := h_18
    show V E κ 3 0 0 21 [some (.ref R), some (.ref (E.2.2.2.2.1 i)), none] [.int (nI (lenS.getD i 0)), .int (nI ((tE (im (R + 1)) T p) - (tS (im (R + 1)) T p)))] S im
    refine z_icmp_eqN (pc := 21) C 26 dX5_isWord_21 (by decide) (by omega) (by omega) (fun c_21 => ?_) (fun c_21 => ?_)
    · 
      refine z_iconstN (pc := 26) C 0 dX5_isWord_26 ?_
      refine z_istore_n (pc := 27) C dX5_isWord_27 (by decide) rfl ?_
      exact loop c_5 c_21 hlt (lenS.getD i 0) 0 (by omega) (fun j h => absurd h (Nat.not_lt_zero _))
    · 
      refine z_iconstN (pc := 24) C 0 dX5_isWord_24 ?_
      exact z_zret (pc := 25) C ρ dX5_isWord_25 (by decide) (⟨_, rfl, Or.inr ⟨fun h => c_21 (((kB_iff hi).mp h.2).1.symm), rfl, rfl, rfl⟩⟩)
def kyC (k : Nat) : Int32 := if k = 3 then -1 else nI k
set_option maxRecDepth 100000 in
set_option maxHeartbeats 4000000 in
theorem c5_keyHere (l : Launch) (E : Ex) (S : Sx) (im : Mem) (R : Nat) (hR : RLay S R) (T : Nat) (hT : T ≤ 96) (hl : im R 1 = nI T) (p : Nat) (hp : p ≤ T) (w : Bool) (hk : TkC im R T p w)  : Mt l E yX5_keyHere cX5_keyHere 1 (some .int) 6 0 0 [.ref R] S im (pI (pE S im (kyC (if tK (im (R + 1)) T p w = 1 then s_keyF (im (R + 1)) (tS (im (R + 1)) T p) (tE (im (R + 1)) T p) 3 0 else 3)))) := by
  refine Mt.of (by decide +kernel) rfl rfl (Nat.le_of_ble_eq_true rfl) ?_
  intro κ hκ C ρ
  subst hκ
  show V E κ 1 0 0 0 [some (.ref R)] [] S im
  refine z_aload_n (pc := 0) C dX5_keyHere_0 rfl ?_
  refine z_ldcS (pc := 1) C dX5_keyHere_1 (i := 0) rfl ?_
  refine kX5_68 (pc := 3) C dX5_keyHere_3 (c5_isWord κ.2.1 E S im R hR T hT hl p hp w hk 0 (by decide)) hR.1 (by decide) (Nat.le_of_ble_eq_true rfl) (Nat.le_refl _) (Nat.le_refl _) (fun v_3 S_3 im_3 h_3 => ?_)
  rcases h_3 with ⟨hb_3, rfl, rfl, rfl⟩ | ⟨hb_3, rfl, rfl, rfl⟩
  · 
    refine z_if_eqF (pc := 6) C 11 dX5_keyHere_6 (by decide) (by decide) ?_
    refine z_iconstN (pc := 9) C 0 dX5_keyHere_9 ?_
    exact z_iret (pc := 10) C ρ dX5_keyHere_10 (⟨_, rfl, by rw [if_pos hb_3.1, s_keyF, if_pos hb_3.2]; rfl, rfl, rfl⟩)
  · 
    refine z_if_eqT (pc := 6) C 11 dX5_keyHere_6 (by decide) (by decide) ?_
    refine z_aload_n (pc := 11) C dX5_keyHere_11 rfl ?_
    refine z_ldcS (pc := 12) C dX5_keyHere_12 (i := 1) rfl ?_
    refine kX5_68 (pc := 14) C dX5_keyHere_14 (c5_isWord κ.2.1 E S im R hR T hT hl p hp w hk 1 (by decide)) hR.1 (by decide) (Nat.le_of_ble_eq_true rfl) (Nat.le_refl _) (Nat.le_refl _) (fun v_14 S_14 im_14 h_14 => ?_)
    rcases h_14 with ⟨hb_14, rfl, rfl, rfl⟩ | ⟨hb_14, rfl, rfl, rfl⟩
    · 
      refine z_if_eqF (pc := 17) C 22 dX5_keyHere_17 (by decide) (by decide) ?_
      refine z_iconstN (pc := 20) C 1 dX5_keyHere_20 ?_
      exact z_iret (pc := 21) C ρ dX5_keyHere_21 (⟨_, rfl, by rw [if_pos hb_14.1, s_keyF, if_neg (fun h => hb_3 ⟨hb_14.1, h⟩), s_keyF, if_pos hb_14.2]; rfl, rfl, rfl⟩)
    · 
      refine z_if_eqT (pc := 17) C 22 dX5_keyHere_17 (by decide) (by decide) ?_
      refine z_aload_n (pc := 22) C dX5_keyHere_22 rfl ?_
      refine z_ldcS (pc := 23) C dX5_keyHere_23 (i := 2) rfl ?_
      refine kX5_68 (pc := 25) C dX5_keyHere_25 (c5_isWord κ.2.1 E S im R hR T hT hl p hp w hk 2 (by decide)) hR.1 (by decide) (Nat.le_of_ble_eq_true rfl) (Nat.le_refl _) (Nat.le_refl _) (fun v_25 S_25 im_25 h_25 => ?_)
      rcases h_25 with ⟨hb_25, rfl, rfl, rfl⟩ | ⟨hb_25, rfl, rfl, rfl⟩
      · 
        refine z_if_eqF (pc := 28) C 35 dX5_keyHere_28 (by decide) (by decide) ?_
        refine z_iconstN (pc := 31) C 2 dX5_keyHere_31 ?_
        refine z_goto (pc := 32) C 36 dX5_keyHere_32 (by decide) ?_
        exact z_iret (pc := 36) C ρ dX5_keyHere_36 (⟨_, rfl, by rw [if_pos hb_25.1, s_keyF, if_neg (fun h => hb_3 ⟨hb_25.1, h⟩), s_keyF, if_neg (fun h => hb_14 ⟨hb_25.1, h⟩), s_keyF, if_pos hb_25.2]; rfl, rfl, rfl⟩)
      · 
        refine z_if_eqT (pc := 28) C 35 dX5_keyHere_28 (by decide) (by decide) ?_
        refine z_iconst (v := -1) (pc := 35) C dX5_keyHere_35 (by decide) ?_
        exact z_iret (pc := 36) C ρ dX5_keyHere_36 (⟨_, rfl, by by_cases h1 : tK (im (R + 1)) T p w = 1; (rw [if_pos h1, s_keyF, if_neg (fun h => hb_3 ⟨h1, h⟩), s_keyF, if_neg (fun h => hb_14 ⟨h1, h⟩), s_keyF, if_neg (fun h => hb_25 ⟨h1, h⟩), s_keyF]; rfl); rw [if_neg h1]; rfl, rfl, rfl⟩)
set_option maxRecDepth 100000 in
set_option maxHeartbeats 4000000 in
theorem c5_namesOfKey (l : Launch) (E : Ex) (S : Sx) (im : Mem) (R : Nat) (hR : RLay S R) (key : Nat) (hk3 : key < 3) (h5 : im R 5 = nI key) : Mt l E yX5_namesOfKey cX5_namesOfKey 1 (some (.object "java/lang/String")) 1 0 0 [.ref R] S im (pA (fun v S' im' => v = some (E.2.2.2.2.1 (3 + key)) ∧ S = S' ∧ im = im')) := by
  refine Mt.of (by decide +kernel) rfl rfl (Nat.le_of_ble_eq_true rfl) ?_
  intro κ hκ C ρ
  subst hκ
  show V E κ 1 0 0 0 [some (.ref R)] [] S im
  refine z_aload_n (pc := 0) C dX5_namesOfKey_0 rfl ?_
  refine gX5_41 (pc := 1) C dX5_namesOfKey_1 hR.1 ?_
  refine z_eqi (y := nI key) (h5) ?_
  by_cases hs_0 : nI key = nI 0
  · 
    refine z_eqi (y := nI 0) hs_0 ?_
    refine z_lookup (off := 28) (pc := 4) C 32 dX5_namesOfKey_4 (by decide +kernel) (by decide +kernel) (by decide) ?_
    refine z_ldcS (pc := 32) C dX5_namesOfKey_32 (i := 3) rfl ?_
    have e0 : key = 0 := (nI_eq (by omega) (by omega)).mp hs_0
    subst e0
    exact z_aret (pc := 34) C ρ (Or.inr ⟨_, rfl⟩) dX5_namesOfKey_34 (⟨some (E.2.2.2.2.1 (3 + 0)), rfl, rfl, rfl, rfl⟩)
  by_cases hs_1 : nI key = nI 1
  · 
    refine z_eqi (y := nI 1) hs_1 ?_
    refine z_lookup (off := 31) (pc := 4) C 35 dX5_namesOfKey_4 (by decide +kernel) (by decide +kernel) (by decide) ?_
    refine z_ldcS (pc := 35) C dX5_namesOfKey_35 (i := 4) rfl ?_
    have e0 : key = 1 := (nI_eq (by omega) (by omega)).mp hs_1
    subst e0
    exact z_aret (pc := 37) C ρ (Or.inr ⟨_, rfl⟩) dX5_namesOfKey_37 (⟨some (E.2.2.2.2.1 (3 + 1)), rfl, rfl, rfl, rfl⟩)
  refine z_lookup (pc := 4) C 38 dX5_namesOfKey_4 (by decide +kernel) (off := 34) (by show Op.lookupswitch.offset [(0, 28), (1, 31)] 34 _ = _; rw [lv_osw hs_0 (show (nI 0 : Int32).toInt = 0 by decide), lv_osw hs_1 (show (nI 1 : Int32).toInt = 1 by decide)]; rfl) (by decide) ?_
  refine z_ldcS (pc := 38) C dX5_namesOfKey_38 (i := 5) rfl ?_
  have e0 : key = 2 := (by have h1 : ¬ key = 0 := (fun h => hs_0 (by rw [h])); have h2 : ¬ key = 1 := (fun h => hs_1 (by rw [h])); omega)
  subst e0
  exact z_aret (pc := 40) C ρ (Or.inr ⟨_, rfl⟩) dX5_namesOfKey_40 (⟨some (E.2.2.2.2.1 (3 + 2)), rfl, rfl, rfl, rfl⟩)
theorem ix_name {key : Nat} (hk : key < 3) (x : Int32) : s_ix (3 + key) x (lenS.getD (3 + key) 0) 0 = s_name (nI key) x := by
  rcases (show key = 0 ∨ key = 1 ∨ key = 2 by omega) with rfl | rfl | rfl
  · show (if chS 3 0 = x then nI 0 else if chS 3 1 = x then nI 1 else if chS 3 2 = x then nI 2 else -1) = _
    rw [s_name, if_pos rfl, show chS 3 0 = nI 111 from by decide, show chS 3 1 = nI 119 from by decide, show chS 3 2 = nI 115 from by decide]
    simp only [eq_comm (a := nI 111), eq_comm (a := nI 119), eq_comm (a := nI 115)]
  · show (if chS 4 0 = x then nI 0 else if chS 4 1 = x then nI 1 else -1) = _
    rw [s_name, if_neg (show ¬ nI 1 = nI 0 by decide), if_pos rfl, show chS 4 0 = nI 110 from by decide, show chS 4 1 = nI 119 from by decide]
    simp only [eq_comm (a := nI 110), eq_comm (a := nI 119)]
  · show (if chS 5 0 = x then nI 0 else if chS 5 1 = x then nI 1 else -1) = _
    rw [s_name, if_neg (show ¬ nI 2 = nI 0 by decide), if_neg (show ¬ nI 2 = nI 1 by decide), show chS 5 0 = nI 112 from by decide, show chS 5 1 = nI 100 from by decide]
    simp only [eq_comm (a := nI 112), eq_comm (a := nI 100)]
theorem lb_val {x : Int32} (h : isLb x = true) : ∃ j, 97 ≤ j ∧ j ≤ 122 ∧ x = nI j := (rng (by decide) (by decide)).mp (lb_iff.mp h)
set_option maxRecDepth 100000 in
set_option maxHeartbeats 4000000 in
theorem c5_nameHere (l : Launch) (E : Ex) (S : Sx) (im : Mem) (R : Nat) (hR : RLay S R) (T : Nat) (hT : T ≤ 96) (hl : im R 1 = nI T) (p : Nat) (hp : p ≤ T) (w : Bool) (hk : TkC im R T p w) (h1 : tK (im (R + 1)) T p w = 1) (key : Nat) (hk3 : key < 3) (h5 : im R 5 = nI key) : Mt l E yX5_nameHere cX5_nameHere 2 (some .int) 5 0 0 [.ref R] S im (pI (pE S im (if tE (im (R + 1)) T p - tS (im (R + 1)) T p = 1 ∧ ¬ s_name (nI key) (tV (im (R + 1)) T p) < 0 then -1 - s_name (nI key) (tV (im (R + 1)) T p) else -1000000001))) := by
  refine Mt.of (by decide +kernel) rfl rfl (Nat.le_of_ble_eq_true rfl) ?_
  intro κ hκ C ρ
  subst hκ
  show V E κ 2 0 0 0 [some (.ref R), none] [] S im
  have hlt : tS (im (R + 1)) T p < tE (im (R + 1)) T p := tE_gt hp (tK12 (Or.inl h1)).1
  have hte := tE_le (a := im (R + 1)) hp
  obtain ⟨j, hj0, hj, ej⟩ := lb_val (tv_1 h1).2
  have etv : tV (im (R + 1)) T p = nI j := (tv_1 h1).1.trans ej
  refine z_aload_n (pc := 0) C dX5_nameHere_0 rfl ?_
  refine gX5_25 (pc := 1) C dX5_nameHere_1 hR.1 ?_
  refine z_eqi (y := nI (tE (im (R + 1)) T p)) (hk.2.2) ?_
  refine z_aload_n (pc := 4) C dX5_nameHere_4 rfl ?_
  refine gX5_59 (pc := 5) C dX5_nameHere_5 hR.1 ?_
  refine z_eqi (y := nI (tS (im (R + 1)) T p)) (hk.1) ?_
  refine z_isubN (pc := 8) C dX5_nameHere_8 (by omega) ?_
  refine z_iconstN (pc := 9) C 1 dX5_nameHere_9 ?_
  refine z_icmp_neN (pc := 10) C 33 dX5_nameHere_10 (by decide) (by omega) (by omega) (fun c_10 => ?_) (fun c_10 => ?_)
  · 
    refine z_iconst (v := -1) (pc := 33) C dX5_nameHere_33 (by decide) ?_
    refine z_istore_n (pc := 34) C dX5_nameHere_34 (by decide) rfl ?_
    refine z_iload_n (pc := 35) C dX5_nameHere_35 rfl ?_
    refine z_if_geF (pc := 36) C 44 dX5_nameHere_36 (by decide) (by decide) ?_
    refine z_ldc (pc := 39) C dX5_nameHere_39 wk_X5_116 ?_
    refine z_goto (pc := 41) C 47 dX5_nameHere_41 (by decide) ?_
    exact z_iret (pc := 47) C ρ dX5_nameHere_47 (⟨_, rfl, by rw [if_neg (fun h => c_10 h.1)], rfl, rfl⟩)
  · 
    refine z_aload_n (pc := 13) C dX5_nameHere_13 rfl ?_
    refine kX5_109 (pc := 14) C dX5_nameHere_14 (c5_namesOfKey κ.2.1 E S im R hR key hk3 h5) hR.1 (by decide) (Nat.le_of_ble_eq_true rfl) (Nat.le_refl _) (Nat.le_refl _) (fun v_14 S_14 im_14 h_14 => ?_)
    obtain ⟨rfl, rfl, rfl⟩ := h_14
    show V E κ 2 0 0 17 [some (.ref R), none] [.ref (E.2.2.2.2.1 (3 + key))] S im
    refine z_aload_n (pc := 17) C dX5_nameHere_17 rfl ?_
    refine gX5_9 (pc := 18) C dX5_nameHere_18 hR.1 hR.2.1 ?_
    refine z_aload_n (pc := 21) C dX5_nameHere_21 rfl ?_
    refine gX5_59 (pc := 22) C dX5_nameHere_22 hR.1 ?_
    refine z_eqi (y := nI (tS (im (R + 1)) T p)) (hk.1) ?_
    refine z_iald (pc := 25) C dX5_nameHere_25 hR.2.2.2.1.1 hR.2.2.2.1.2 (by omega) (by decide) ?_
    refine z_eqi (y := nI j) (ej) ?_
    refine z_i2c (pc := 26) C dX5_nameHere_26 ?_
    refine z_eqi (y := nI j) (i2c_ok (by omega)) ?_
    refine z_cVS (pc := 27) (y := yJ0_indexOf_0f7a4) (As := [.int (nI j)]) (rest := []) (i := (3 + key)) C (by omega) rfl dX5_nameHere_27 (j0_indexOf κ.2.1 E S im (3 + key) (by omega) j (by omega)) wm_X5_113 wi_J0_indexOf_0f7a4 ws_J0_J0_indexOf_0f7a4 wn_J0 wc_J0_indexOf_0f7a4 (show yJ0_indexOf_0f7a4.cls ≠ "java/lang/invoke/MethodHandle" ∧ yJ0_indexOf_0f7a4.cls ≠ "java/lang/invoke/VarHandle" ∧ (parseMethodDescriptor yJ0_indexOf_0f7a4.desc).map (fun d => d.parameters.length) = some 1 by decide +kernel) (by decide) (by decide) rfl (Nat.le_of_ble_eq_true rfl) (Nat.le_refl _) (Nat.le_refl _) (fun r_27 S_27 im_27 hr_27 => ?_)
    obtain ⟨v_27, rfl, h_27⟩ := hr_27
    obtain ⟨rfl, rfl, rfl⟩ := h_27
    show V E κ 2 0 0 30 [some (.ref R), none] [.int (s_ix (3 + key) (nI j) (lenS.getD (3 + key) 0) 0)] S im
    refine z_goto (pc := 30) C 34 dX5_nameHere_30 (by decide) ?_
    refine z_istore_n (pc := 34) C dX5_nameHere_34 (by decide) rfl ?_
    refine z_iload_n (pc := 35) C dX5_nameHere_35 rfl ?_
    refine z_if_ge (pc := 36) C 44 dX5_nameHere_36 (by decide) (fun c_36 => ?_) (fun c_36 => ?_)
    · 
      refine z_iconst (v := -1) (pc := 44) C dX5_nameHere_44 (by decide) ?_
      refine z_iload_n (pc := 45) C dX5_nameHere_45 rfl ?_
      refine z_isub (pc := 46) C dX5_nameHere_46 ?_
      exact z_iret (pc := 47) C ρ dX5_nameHere_47 (⟨_, rfl, by rw [etv, ← ix_name hk3, if_pos ⟨c_10, fun h => i_nge h c_36⟩], rfl, rfl⟩)
    · 
      refine z_ldc (pc := 39) C dX5_nameHere_39 wk_X5_116 ?_
      refine z_goto (pc := 41) C 47 dX5_nameHere_41 (by decide) ?_
      exact z_iret (pc := 47) C ρ dX5_nameHere_47 (⟨_, rfl, by rw [etv, ← ix_name hk3, if_neg (fun h => h.2 (by rw [Int32.lt_iff_toInt_lt]; rw [Int32.le_iff_toInt_le] at c_36; omega))], rfl, rfl⟩)
