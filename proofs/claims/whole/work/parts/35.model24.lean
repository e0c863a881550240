/-! the reference: takesPart -/
theorem tK12 {a : Nat → Int32} {T p : Nat} {w : Bool} (h : tK a T p w = 1 ∨ tK a T p w = 2) : ¬ tS a T p = T ∧ tWb a T p = true := by
  have hsT : ¬ tS a T p = T := fun e => by rw [tK, if_pos e] at h; omega
  refine ⟨hsT, ?_⟩
  rw [tWb, decide_eq_true hsT, Bool.true_and, Bool.or_eq_true]
  by_cases hl : isLb (a (tS a T p)) = true
  · exact Or.inl hl
  · by_cases hd : isDb (a (tS a T p)) = true
    · exact Or.inr hd
    · rw [tK, if_neg hsT, if_neg hl, if_neg hd] at h; omega
theorem PSt_fr {M : Nat} {im im' : Mem} {cs W : List Int32} (h : PSt M im cs W) (h21 : im' M 21 = im M 21) (h24 : im' M 24 = im M 24) (h12 : im' (M + 12) = im (M + 12)) (h13 : im' (M + 13) = im (M + 13)) : PSt M im' cs W := by
  unfold PSt at h ⊢
  rw [h21, h24, h12, h13]
  exact h
/-- a number or a name is looked at -/
def isPt (a : Nat → Int32) (T p : Nat) (w : Bool) (key : Int32) : Prop := tK a T p w = 2 ∨ (tK a T p w = 1 ∧ tE a T p - tS a T p = 1 ∧ ¬ s_name key (tV a T p) < 0)
def ptC (a : Nat → Int32) (T p : Nat) (w : Bool) (key : Int32) : Int32 := if tK a T p w = 2 then tV a T p else nI 10000 + s_name key (tV a T p)
set_option maxRecDepth 100000 in
set_option maxHeartbeats 4000000 in
theorem m7_takesPart (l : Launch) (E : Ex) (S : Sx) (im : Mem) (M : Nat) (hM : ML S M) (T : Nat) (hT : T ≤ 96) (ht : im M 11 = nI T) (p : Nat) (hp : p ≤ T) (w : Bool) (hk : Tk M im T p w) (cs W : List Int32) (hP : PSt M im cs W) (hroom0 : isPt (im (M + 9)) T p w (im M 17) → cs.length + W.length < 96) (at_ : Nat) (hat : im M 22 = nI at_) : Mt l E yX7_takesPart cX7_takesPart 2 (some .boolean) 3 0 0 [.ref M] S im (pI (fun v S' im' => (¬ isPt (im (M + 9)) T p w (im M 17) ∧ nI 0 = v ∧ S = S' ∧ im = im') ∨ (isPt (im (M + 9)) T p w (im M 17) ∧ nI 1 = v ∧ S = S' ∧ PSt M im' (cs ++ [ptC (im (M + 9)) T p w (im M 17)] ++ (stl 6 W).1) (stl 6 W).2 ∧ im' M 22 = nI (at_ + 1) ∧ Tk M im' T (tE (im (M + 9)) T p) true ∧ (∀ j, j < 12 ∨ j = 17 ∨ 24 < j → im' M j = im M j) ∧ ∀ c, c ≠ M → c ≠ M + 12 → im' c = im c))) := by
  refine Mt.of (by decide +kernel) rfl rfl (Nat.le_of_ble_eq_true rfl) ?_
  intro κ hκ C ρ
  subst hκ
  show V E κ 2 0 0 0 [some (.ref M), none] [] S im
  have hK31 : tK (im (M + 9)) T p w < 2 ^ 31 := by have := tK_le (im (M + 9)) T p w; omega
  refine z_aload_n (pc := 0) C dX7_takesPart_0 rfl ?_
  refine gX7_215 (pc := 1) C dX7_takesPart_1 (ml_K hM) ?_
  refine z_eqi (y := nI (tK (im (M + 9)) T p w)) (hk.2.1) ?_
  refine z_iconstN (pc := 4) C 1 dX7_takesPart_4 ?_
  have j_37 : ∀ x37 : Int32, x37 = (if tK (im (M + 9)) T p w = 1 ∧ tE (im (M + 9)) T p - tS (im (M + 9)) T p = 1 ∧ ¬ s_name (im M 17) (tV (im (M + 9)) T p) < 0 then nI 1 else nI 0) → V E κ 2 0 0 37 [some (.ref M), none] [.int x37] S im := by
    intro x37 ex37
    refine z_istore_n (pc := 37) C dX7_takesPart_37 (by decide) rfl ?_
    have j52 : isPt (im (M + 9)) T p w (im M 17) → V E κ 2 0 0 52 [some (.ref M), some (.int x37)] [] S im := by
      intro hpt
      have hroom := hroom0 hpt
      obtain ⟨hsT, hwb⟩ := tK12 (show tK (im (M + 9)) T p w = 1 ∨ tK (im (M + 9)) T p w = 2 from hpt.elim Or.inr (fun h => Or.inl h.1))
      have hgt := tE_gt hp hsT
      have hle := tE_le (a := im (M + 9)) hp
      refine z_aload_n (pc := 52) C dX7_takesPart_52 rfl ?_
      refine gX7_49 (pc := 53) C dX7_takesPart_53 (ml_K hM) (ml_r20 hM) ?_
      refine z_aload_n (pc := 56) C dX7_takesPart_56 rfl ?_
      refine gX7_239 (pc := 57) C dX7_takesPart_57 (ml_K hM) ?_
      refine z_eqi (y := nI cs.length) (hP.1) ?_
      refine z_aload_n (pc := 60) C dX7_takesPart_60 rfl ?_
      refine gX7_215 (pc := 61) C dX7_takesPart_61 (ml_K hM) ?_
      refine z_eqi (y := nI (tK (im (M + 9)) T p w)) (hk.2.1) ?_
      refine z_iconstN (pc := 64) C 2 dX7_takesPart_64 ?_
      have j_87 : ∀ x87 : Int32, x87 = (ptC (im (M + 9)) T p w (im M 17)) → V E κ 2 0 0 87 [some (.ref M), some (.int x37)] [.int x87, .int (nI cs.length), .ref (M + 12)] S im := by
        intro x87 ex87
        refine z_iast (pc := 87) C dX7_takesPart_87 (ml_a12 hM) (ml_n12 hM) (by omega) (by decide) ?_
        refine z_aload_n (pc := 88) C dX7_takesPart_88 rfl ?_
        refine z_dup (pc := 89) C dX7_takesPart_89 rfl ?_
        refine gX7_239 (pc := 90) C dX7_takesPart_90 (ml_K hM) ?_
        refine z_eqi (y := nI cs.length) (by rw [up2_n _ _ _ (by omega)]; exact hP.1) ?_
        refine z_iconstN (pc := 93) C 1 dX7_takesPart_93 ?_
        refine z_iaddN (pc := 94) C dX7_takesPart_94 ?_
        refine pX7_239 (pc := 95) C dX7_takesPart_95 (ml_K hM) ?_
        refine z_aload_n (pc := 98) C dX7_takesPart_98 rfl ?_
        refine z_dup (pc := 99) C dX7_takesPart_99 rfl ?_
        refine gX7_245 (pc := 100) C dX7_takesPart_100 (ml_K hM) ?_
        refine z_eqi (y := nI at_) (by rw [up2_at, if_neg (by decide), up2_n _ _ _ (by omega)]; exact hat) ?_
        refine z_iconstN (pc := 103) C 1 dX7_takesPart_103 ?_
        refine z_iaddN (pc := 104) C dX7_takesPart_104 ?_
        refine pX7_245 (pc := 105) C dX7_takesPart_105 (ml_K hM) ?_
        refine z_aload_n (pc := 108) C dX7_takesPart_108 rfl ?_
        refine z_bipushN (pc := 109) C 6 (by decide) dX7_takesPart_109 ?_
        refine kX7_248 (pc := 111) C dX7_takesPart_111 (m7_settle κ.2.1 E S _ M hM 6 (by decide) (cs ++ [x87]) W ⟨by rw [up2_at, if_neg (by decide), up2_at, if_pos rfl, List.length_append]; rfl, by rw [up2_at, if_neg (by decide), up2_at, if_neg (by decide), up2_n _ _ _ (by omega)]; exact hP.2.1, by rw [up2_n _ _ _ (by omega), up2_n _ _ _ (by omega), up2_s]; exact row_snoc hP.2.2.1, by rw [up2_n _ _ _ (by omega), up2_n _ _ _ (by omega), up2_n _ _ _ (by omega)]; exact hP.2.2.2.1, by simp; omega⟩) (ml_K hM) (by decide) (Nat.le_of_ble_eq_true rfl) (Nat.le_refl _) (Nat.le_refl _) (fun S_111 im_111 h_111 => ?_)
        obtain ⟨rfl, hP1, hk1, hc1⟩ := h_111
        have hk2 : ∀ j, j ≠ 21 → j ≠ 22 → j ≠ 24 → im_111 M j = im M j := fun j q1 q2 q3 => by rw [hk1 j q1 q3, up2_at, if_neg q2, up2_at, if_neg q1, up2_n _ _ _ (by omega)]
        have hc2 : ∀ c, c ≠ M → c ≠ M + 12 → im_111 c = im c := fun c q1 q2 => by rw [hc1 c q1 q2, up2_n _ _ _ q1, up2_n _ _ _ q1, up2_n _ _ _ q2]
        have h22 : im_111 M 22 = nI (at_ + 1) := by rw [hk1 _ (by decide) (by decide), up2_at, if_pos rfl]
        have e9 : im_111 (M + 9) = im (M + 9) := hc2 _ (by omega) (by omega)
        refine z_aload_n (pc := 114) C dX7_takesPart_114 rfl ?_
        refine kX7_230 (pc := 115) C dX7_takesPart_115 (m7_go κ.2.1 E S im_111 M hM T hT (by rw [hk2 _ (by decide) (by decide) (by decide)]; exact ht) (tE (im (M + 9)) T p) (tE_le hp) (by rw [hk2 _ (by decide) (by decide) (by decide)]; exact hk.2.2.1) true (by rw [hk2 _ (by decide) (by decide) (by decide), ← hwb]; exact hk.2.2.2.2 hsT)) (ml_K hM) (by decide) (Nat.le_of_ble_eq_true rfl) (Nat.le_refl _) (Nat.le_refl _) (fun S_115 im_115 h_115 => ?_)
        obtain ⟨rfl, hgo⟩ := h_115
        have hTk := gGo_Tk hT (tE_le hp) (by rw [hk2 _ (by decide) (by decide) (by decide), ← hwb]; exact hk.2.2.2.2 hsT) hgo
        obtain ⟨-, -, -, -, -, -, hk3, hc3⟩ := hgo
        refine z_iconstN (pc := 118) C 1 dX7_takesPart_118 ?_
        exact z_zret (pc := 119) C ρ dX7_takesPart_119 (by decide) (⟨_, rfl, Or.inr ⟨hpt, rfl, rfl, by rw [← ex87]; exact PSt_fr hP1 (hk3 _ (by decide) (by decide) (by decide) (by decide) (by decide)) (hk3 _ (by decide) (by decide) (by decide) (by decide) (by decide)) (hc3 _ (by omega)) (hc3 _ (by omega)), by rw [hk3 _ (by decide) (by decide) (by decide) (by decide) (by decide)]; exact h22, hTk, fun j hj => by rw [hk3 _ (by omega) (by omega) (by omega) (by omega) (by omega)]; exact hk2 j (by omega) (by omega) (by omega), fun c q1 q2 => by rw [hc3 c q1]; exact hc2 c q1 q2⟩⟩)
      refine z_icmp_neN (pc := 65) C 75 dX7_takesPart_65 (by decide) hK31 (by omega) (fun c_65 => ?_) (fun c_65 => ?_)
      · 
        refine z_sipush (v := nI 10000) (pc := 75) C dX7_takesPart_75 (by decide +kernel) ?_
        refine z_aload_n (pc := 78) C dX7_takesPart_78 rfl ?_
        refine z_aload_n (pc := 79) C dX7_takesPart_79 rfl ?_
        refine gX7_221 (pc := 80) C dX7_takesPart_80 (ml_K hM) ?_
        refine z_eqi (y := tV (im (M + 9)) T p) (hk.2.2.2.1 hsT) ?_
        refine kX7_242 (pc := 83) C dX7_takesPart_83 (m7_nameOf κ.2.1 E S im M hM (tV (im (M + 9)) T p)) (ml_K hM) (by decide) (Nat.le_of_ble_eq_true rfl) (Nat.le_refl _) (Nat.le_refl _) (fun v_83 S_83 im_83 h_83 => ?_)
        obtain ⟨rfl, rfl, rfl⟩ := h_83
        refine z_iadd (pc := 86) C dX7_takesPart_86 ?_
        exact j_87 _ (by simp only [ptC, if_neg c_65])
      · 
        refine z_aload_n (pc := 68) C dX7_takesPart_68 rfl ?_
        refine gX7_221 (pc := 69) C dX7_takesPart_69 (ml_K hM) ?_
        refine z_eqi (y := tV (im (M + 9)) T p) (hk.2.2.2.1 hsT) ?_
        refine z_goto (pc := 72) C 87 dX7_takesPart_72 (by decide) ?_
        exact j_87 _ (by simp only [ptC, if_pos c_65])
    refine z_aload_n (pc := 38) C dX7_takesPart_38 rfl ?_
    refine gX7_215 (pc := 39) C dX7_takesPart_39 (ml_K hM) ?_
    refine z_eqi (y := nI (tK (im (M + 9)) T p w)) (hk.2.1) ?_
    refine z_iconstN (pc := 42) C 2 dX7_takesPart_42 ?_
    refine z_icmp_eqN (pc := 43) C 52 dX7_takesPart_43 (by decide) hK31 (by omega) (fun c_43 => ?_) (fun c_43 => ?_)
    · 
      exact j52 (Or.inl c_43)
    · 
      refine z_iload_n (pc := 46) C dX7_takesPart_46 rfl ?_
      refine z_if_ne (pc := 47) C 52 dX7_takesPart_47 (by decide) (fun c_47 => ?_) (fun c_47 => ?_)
      · 
        exact j52 (Or.inr (by by_cases h : tK (im (M + 9)) T p w = 1 ∧ tE (im (M + 9)) T p - tS (im (M + 9)) T p = 1 ∧ ¬ s_name (im M 17) (tV (im (M + 9)) T p) < 0; exact h; exact absurd (by rw [ex37, if_neg h]; rfl) c_47))
      · 
        refine z_iconstN (pc := 50) C 0 dX7_takesPart_50 ?_
        exact z_zret (pc := 51) C ρ dX7_takesPart_51 (by decide) (⟨_, rfl, Or.inl ⟨fun h => h.elim c_43 (fun h => absurd c_47 (by rw [ex37, if_pos h]; decide)), rfl, rfl, rfl⟩⟩)
  refine z_icmp_neN (pc := 5) C 36 dX7_takesPart_5 (by decide) hK31 (by omega) (fun c_5 => ?_) (fun c_5 => ?_)
  · 
    refine z_iconstN (pc := 36) C 0 dX7_takesPart_36 ?_
    exact j_37 _ (by rw [if_neg (fun h => c_5 h.1)])
  · 
    refine z_aload_n (pc := 8) C dX7_takesPart_8 rfl ?_
    refine gX7_206 (pc := 9) C dX7_takesPart_9 (ml_K hM) ?_
    refine z_eqi (y := nI (tE (im (M + 9)) T p)) (hk.2.2.1) ?_
    refine z_aload_n (pc := 12) C dX7_takesPart_12 rfl ?_
    refine gX7_209 (pc := 13) C dX7_takesPart_13 (ml_K hM) ?_
    refine z_eqi (y := nI (tS (im (M + 9)) T p)) (hk.1) ?_
    refine z_isubN (pc := 16) C dX7_takesPart_16 (Nat.le_of_lt (tE_gt hp (tK12 (Or.inl c_5)).1)) ?_
    refine z_iconstN (pc := 17) C 1 dX7_takesPart_17 ?_
    refine z_icmp_neN (pc := 18) C 36 dX7_takesPart_18 (by decide) (by have := tE_le (a := im (M + 9)) hp; omega) (by omega) (fun c_18 => ?_) (fun c_18 => ?_)
    · 
      refine z_iconstN (pc := 36) C 0 dX7_takesPart_36 ?_
      exact j_37 _ (by rw [if_neg (fun h => c_18 h.2.1)])
    · 
      refine z_aload_n (pc := 21) C dX7_takesPart_21 rfl ?_
      refine z_aload_n (pc := 22) C dX7_takesPart_22 rfl ?_
      refine gX7_221 (pc := 23) C dX7_takesPart_23 (ml_K hM) ?_
      refine z_eqi (y := tV (im (M + 9)) T p) (hk.2.2.2.1 (tK12 (Or.inl c_5)).1) ?_
      refine kX7_242 (pc := 26) C dX7_takesPart_26 (m7_nameOf κ.2.1 E S im M hM (tV (im (M + 9)) T p)) (ml_K hM) (by decide) (Nat.le_of_ble_eq_true rfl) (Nat.le_refl _) (Nat.le_refl _) (fun v_26 S_26 im_26 h_26 => ?_)
      obtain ⟨rfl, rfl, rfl⟩ := h_26
      refine z_if_lt (pc := 29) C 36 dX7_takesPart_29 (by decide) (fun c_29 => ?_) (fun c_29 => ?_)
      · 
        refine z_iconstN (pc := 36) C 0 dX7_takesPart_36 ?_
        exact j_37 _ (by rw [if_neg (fun h => h.2.2 c_29)])
      · 
        refine z_iconstN (pc := 32) C 1 dX7_takesPart_32 ?_
        refine z_goto (pc := 33) C 37 dX7_takesPart_33 (by decide) ?_
        exact j_37 _ (by rw [if_pos ⟨c_5, c_18, c_29⟩])
