/-! the reference: text -/
def tx_key (a : Nat → Int32) (T : Nat) : Nat := if tK a T 0 false = 1 then s_keyF a (tS a T 0) (tE a T 0) 3 0 else 3
def tx_rd (a : Nat → Int32) (T : Nat) : Bool × RS := rd a T (nI (tx_key a T)) 70 0 0 0 (tE a T 0, true, [], 0)
abbrev tx_ok (a : Nat → Int32) (T : Nat) : Prop := tx_key a T < 3 ∧ ((tx_rd a T).1 = true ∧ tK a T (tx_rd a T).2.1 (tx_rd a T).2.2.1 = 0)
def tx_at (a : Nat → Int32) (T : Nat) : Nat := if tx_key a T < 3 then tS a T (tx_rd a T).2.1 else tS a T 0
def r_text (a : Nat → Int32) (T n7 : Nat) : Int32 := if tx_ok a T then (if n7 = 14 then -1000000003 else nI n7) else -100 - nI (tx_at a T)
def tx_pl (f : Nat → Int32) (cs : List Int32) (key at_ n7 k : Nat) : Nat → Int32 := fun j => if 106 + 96 * n7 ≤ j ∧ j < 106 + 96 * n7 + k then cs.getD (j - (106 + 96 * n7)) 0 else upd (upd f (78 + 2 * n7) (nI (1000 * key + cs.length))) (78 + 2 * n7 + 1) (nI at_) j
def f_text (f a : Nat → Int32) (T n7 : Nat) : Nat → Int32 := if tx_ok a T then (if n7 = 14 then f else upd (tx_pl f (tx_rd a T).2.2.2.1 (tx_key a T) (tx_rd a T).2.2.2.2 n7 (tx_rd a T).2.2.2.1.length) 7 (nI (n7 + 1))) else f
theorem nI_m1 {j : Nat} (h : j < 1000) : ¬ nI j = -1 := by
  intro e
  have := congrArg Int32.toInt e
  rw [nI_toInt (by omega), show (-1 : Int32).toInt = -1 by decide] at this
  omega
set_option maxRecDepth 100000 in
set_option maxHeartbeats 4000000 in
theorem m7_text (l : Launch) (E : Ex) (S : Sx) (im : Mem) (M : Nat) (hM : ML S M) (n n7 : Nat) (f : Nat → Int32) (hf0 : im (M + 1) = f) (hok : MOk f n n7) (T : Nat) (hT : T ≤ 96) (ht : im M 11 = nI T) (hky : KyOk M im) : Mt l E yX7_text cX7_text 4 (some .int) 5 0 0 [.ref M] S im (pI (fun v S' im' => r_text (im (M + 9)) T n7 = v ∧ S = S' ∧ im' (M + 1) = f_text f (im (M + 9)) T n7 ∧ im' M 11 = nI 0 ∧ (∀ j, j < 11 ∨ 24 < j → im' M j = im M j) ∧ ∀ c, c ≠ M → c ≠ M + 1 → c ≠ M + 12 → c ≠ M + 13 → c ≠ M + 14 → im' c = im c)) := by
  refine Mt.of (by decide +kernel) rfl rfl (Nat.le_of_ble_eq_true rfl) ?_
  intro κ hκ C ρ
  subst hκ
  show V E κ 4 0 0 0 [some (.ref M), none, none, none] [] S im
  have hn7 := hok.2.1.1
  have hw0 : wOk ((up2 (up2 im M 12 (nI 0)) M 16 (-1)) M 16) 0 false := by
    rw [up2_at, if_pos rfl]
    exact ⟨fun h => absurd h.symm (by decide), fun _ j _ hj => nI_m1 hj⟩
  refine z_aload_n (pc := 0) C dX7_text_0 rfl ?_
  refine z_iconstN (pc := 1) C 0 dX7_text_1 ?_
  refine pX7_206 (pc := 2) C dX7_text_2 (ml_K hM) ?_
  refine z_aload_n (pc := 5) C dX7_text_5 rfl ?_
  refine z_iconst (v := -1) (pc := 6) C dX7_text_6 (by decide) ?_
  refine pX7_212 (pc := 7) C dX7_text_7 (ml_K hM) ?_
  refine z_aload_n (pc := 10) C dX7_text_10 rfl ?_
  refine kX7_230 (pc := 11) C dX7_text_11 (m7_go κ.2.1 E S (up2 (up2 im M 12 (nI 0)) M 16 (-1)) M hM T hT (by rw [up2_at, if_neg (by decide), up2_at, if_neg (by decide)]; exact ht) 0 (Nat.zero_le _) (by rw [up2_at, if_neg (by decide), up2_at, if_pos rfl]) false hw0) (ml_K hM) (by decide) (Nat.le_of_ble_eq_true rfl) (Nat.le_refl _) (Nat.le_refl _) (fun S_11 im_11 h_11 => ?_)
  obtain ⟨rfl, hgo⟩ := h_11
  have hTk := gGo_Tk hT (Nat.zero_le _) hw0 hgo
  obtain ⟨-, -, -, -, -, -, hkg, hcg⟩ := hgo
  have e9 : im_11 (M + 9) = im (M + 9) := by rw [hcg _ (by omega), up2_n _ _ _ (by omega), up2_n _ _ _ (by omega)]
  have hj11 : ∀ j, j < 12 ∨ 16 < j → im_11 M j = im M j := fun j hj => by rw [hkg _ (by omega) (by omega) (by omega) (by omega) (by omega), up2_at, if_neg (by omega), up2_at, if_neg (by omega)]
  have hj11b : im_11 M 11 = nI T := by rw [hj11 _ (by omega)]; exact ht
  refine z_aload_n (pc := 14) C dX7_text_14 rfl ?_
  refine kX7_260 (pc := 15) C dX7_text_15 (m7_takesKey κ.2.1 E S im_11 M hM T hT hj11b 0 (Nat.zero_le _) false hTk ⟨fun q hq => by rw [hcg _ (by omega), up2_n _ _ _ (by omega), up2_n _ _ _ (by omega)]; exact hky.1 q hq, fun q hq => by rw [hcg _ (by omega), up2_n _ _ _ (by omega), up2_n _ _ _ (by omega)]; exact hky.2 q hq⟩) (ml_K hM) (by decide) (Nat.le_of_ble_eq_true rfl) (Nat.le_refl _) (Nat.le_refl _) (fun v_15 S_15 im_15 h_15 => ?_)
  rcases h_15 with ⟨hno, rfl, rfl, rfl⟩ | ⟨hK1, hk3, rfl, rfl, hk17, hTk2, hj15, hc15⟩
  · have hnk0 : tx_key (im (M + 9)) T = 3 := by
      rw [e9] at hno
      rw [tx_key]
      by_cases h : tK (im (M + 9)) T 0 false = 1
      · rw [if_pos h]; exact hno.resolve_left (fun q => q h)
      · rw [if_neg h]
    have hk3n : ¬ tx_key (im (M + 9)) T < 3 := by omega
    have hnk : ¬ tx_ok (im (M + 9)) T := fun h => hk3n h.1
    refine z_if_eqT (pc := 18) C 32 dX7_text_18 (by decide) (by decide) ?_
    refine z_iconstN (pc := 32) C 0 dX7_text_32 ?_
    refine z_istore_n (pc := 33) C dX7_text_33 (by decide) rfl ?_
    refine z_aload_n (pc := 34) C dX7_text_34 rfl ?_
    refine z_iconstN (pc := 35) C 0 dX7_text_35 ?_
    refine pX7_203 (pc := 36) C dX7_text_36 (ml_K hM) ?_
    refine z_iload_n (pc := 39) C dX7_text_39 rfl ?_
    refine z_if_neF (pc := 40) C 51 dX7_text_40 (by decide) (by decide) ?_
    refine z_bipush (v := -100) (pc := 43) C dX7_text_43 (by decide) ?_
    refine z_aload_n (pc := 45) C dX7_text_45 rfl ?_
    refine gX7_209 (pc := 46) C dX7_text_46 (ml_K hM) ?_
    refine z_eqi (y := nI (tS (im (M + 9)) T 0)) (by rw [up2_at, if_neg (by decide)]; exact hTk.1.trans (by rw [e9])) ?_
    refine z_isub (pc := 49) C dX7_text_49 ?_
    exact z_iret (pc := 50) C ρ dX7_text_50 (⟨_, rfl, by rw [r_text, if_neg hnk, tx_at, if_neg hk3n], rfl, by rw [up2_n _ _ _ (by omega), hcg _ (by omega), up2_n _ _ _ (by omega), up2_n _ _ _ (by omega), f_text, if_neg hnk]; exact hf0, by rw [up2_at, if_pos rfl], fun j hj => by rw [up2_at, if_neg (by omega)]; exact hj11 j (by omega), fun c q1 q2 q3 q4 q5 => by rw [up2_n _ _ _ q1]; rw [hcg c q1, up2_n _ _ _ q1, up2_n _ _ _ q1]⟩)
  rw [e9] at hK1 hk3 hk17 hTk2
  have hkk0 : s_keyF (im (M + 9)) (tS (im (M + 9)) T 0) (tE (im (M + 9)) T 0) 3 0 = tx_key (im (M + 9)) T := by rw [tx_key, if_pos hK1]
  rw [hkk0] at hk3 hk17
  have hkk := hk3
  have e15 : im_15 (M + 9) = im (M + 9) := by rw [hc15 _ (by omega)]; exact e9
  have h11b : im_15 M 11 = nI T := by rw [hj15 _ (by omega)]; exact hj11b
  refine z_if_eqF (pc := 18) C 32 dX7_text_18 (by decide) (by decide) ?_
  refine z_aload_n (pc := 21) C dX7_text_21 rfl ?_
  refine kX7_263 (pc := 22) C dX7_text_22 (m7_takesE κ.2.1 E S im_15 M hM T hT h11b (tE (im (M + 9)) T 0) (tE_le (Nat.zero_le _)) true hTk2) (ml_K hM) (by decide) (Nat.le_of_ble_eq_true rfl) (Nat.le_refl _) (Nat.le_refl _) (fun v_22 S_22 im_22 h_22 => ?_)
  rw [e15, hk17] at h_22
  rw [show rd (im (M + 9)) T (nI (tx_key (im (M + 9)) T)) 70 0 0 0 (tE (im (M + 9)) T 0, true, [], 0) = tx_rd (im (M + 9)) T from rfl] at h_22
  obtain ⟨rfl, hfrE, hE⟩ := h_22
  have hj22 : ∀ j, j < 11 ∨ 24 < j → im_22 M j = im M j := fun j hj => by rw [hfrE.1 j (by omega), hj15 j (by omega)]; exact hj11 j (by omega)
  have hc22 : ∀ c, c ≠ M → c ≠ M + 1 → c ≠ M + 12 → c ≠ M + 13 → c ≠ M + 14 → im_22 c = im c := fun c q1 q2 q3 q4 q5 => by rw [hfrE.2 c q1 q3 q4 q5, hc15 c q1, hcg c q1, up2_n _ _ _ q1, up2_n _ _ _ q1]
  have hm22 : im_22 (M + 1) = f := by rw [hfrE.2 _ (by omega) (by omega) (by omega) (by omega), hc15 _ (by omega), hcg _ (by omega), up2_n _ _ _ (by omega), up2_n _ _ _ (by omega)]; exact hf0
  rcases hE with ⟨hokE, rfl, h21, hl96, hcs, h22⟩ | ⟨hno, rfl, h13⟩
  case inr =>
    refine z_if_eqT (pc := 25) C 32 dX7_text_25 (by decide) (by decide) ?_
    refine z_iconstN (pc := 32) C 0 dX7_text_32 ?_
    refine z_istore_n (pc := 33) C dX7_text_33 (by decide) rfl ?_
    refine z_aload_n (pc := 34) C dX7_text_34 rfl ?_
    refine z_iconstN (pc := 35) C 0 dX7_text_35 ?_
    refine pX7_203 (pc := 36) C dX7_text_36 (ml_K hM) ?_
    refine z_iload_n (pc := 39) C dX7_text_39 rfl ?_
    refine z_if_neF (pc := 40) C 51 dX7_text_40 (by decide) (by decide) ?_
    refine z_bipush (v := -100) (pc := 43) C dX7_text_43 (by decide) ?_
    refine z_aload_n (pc := 45) C dX7_text_45 rfl ?_
    refine gX7_209 (pc := 46) C dX7_text_46 (ml_K hM) ?_
    refine z_eqi (y := nI (tS (im (M + 9)) T (tx_rd (im (M + 9)) T).2.1)) (by rw [up2_at, if_neg (by decide)]; exact h13) ?_
    refine z_isub (pc := 49) C dX7_text_49 ?_
    exact z_iret (pc := 50) C ρ dX7_text_50 (⟨_, rfl, by rw [r_text, if_neg (fun h => hno h.2), tx_at, if_pos hkk], rfl, by rw [up2_n _ _ _ (by omega), hm22, f_text, if_neg (fun h => hno h.2)], by rw [up2_at, if_pos rfl], fun j hj => by rw [up2_at, if_neg (by omega)]; exact hj22 j (by omega), fun c q1 q2 q3 q4 q5 => by rw [up2_n _ _ _ q1]; exact hc22 c q1 q2 q3 q4 q5⟩)
  have hok2 : tx_ok (im (M + 9)) T := ⟨hkk, hokE⟩
  have h17b : im_22 M 17 = nI (tx_key (im (M + 9)) T) := by rw [hfrE.1 _ (by omega)]; exact hk17
  have loop : ∀ (im2 : Mem), im2 M 21 = nI (tx_rd (im (M + 9)) T).2.2.2.1.length → im2 M 11 = nI 0 → (∀ i, i < (tx_rd (im (M + 9)) T).2.2.2.1.length → im2 (M + 12) i = (tx_rd (im (M + 9)) T).2.2.2.1.getD i 0) → (∀ j, j < 11 ∨ 24 < j → im2 M j = im M j) → (∀ c, c ≠ M → c ≠ M + 1 → c ≠ M + 12 → c ≠ M + 13 → c ≠ M + 14 → im2 c = im c) → ¬ n7 = 14 → ∀ (r k : Nat) (im' : Mem), k + r = (tx_rd (im (M + 9)) T).2.2.2.1.length → im' (M + 1) = tx_pl f (tx_rd (im (M + 9)) T).2.2.2.1 (tx_key (im (M + 9)) T) ((tx_rd (im (M + 9)) T).2.2.2.2) n7 k → (∀ c, c ≠ M + 1 → im' c = im2 c) → V E κ 4 0 0 117 [some (.ref M), some (.int (nI 1)), some (.int (nI n7)), some (.int (nI k))] [] S im' := by
    intro im2 h21' h11' hcs' hj2 hc2 hn14 r
    induction r with
    | zero =>
      intro k im' hk hm ho
      refine z_iload_n (pc := 117) C dX7_text_117 rfl ?_
      refine z_aload_n (pc := 118) C dX7_text_118 rfl ?_
      refine gX7_239 (pc := 119) C dX7_text_119 (ml_K hM) ?_
      refine z_eqi (y := nI ((tx_rd (im (M + 9)) T).2.2.2.1.length)) (by rw [ho _ (by omega)]; exact h21') ?_
      refine z_icmp_geT (pc := 122) C 151 dX7_text_122 (by decide) (nI_le (by omega) (by omega)) ?_
      refine z_aload_n (pc := 151) C dX7_text_151 rfl ?_
      refine gX7_9 (pc := 152) C dX7_text_152 (ml_K hM) (ml_r0 hM) ?_
      refine z_bipushN (pc := 155) C 7 (by decide) dX7_text_155 ?_
      refine z_dup2 (pc := 157) C dX7_text_157 rfl rfl ?_
      refine z_iald (pc := 158) C dX7_text_158 (ml_a1 hM) (ml_n1 hM) (by omega) (by decide) ?_
      refine z_eqi (y := nI n7) (by rw [hm, tx_pl, if_neg (by omega), upd_n _ _ (by omega), upd_n _ _ (by omega)]; exact hok.2.1.2) ?_
      refine z_iconstN (pc := 159) C 1 dX7_text_159 ?_
      refine z_iaddN (pc := 160) C dX7_text_160 ?_
      refine z_iast (pc := 161) C dX7_text_161 (ml_a1 hM) (ml_n1 hM) (by omega) (by decide) ?_
      refine z_iload_n (pc := 162) C dX7_text_162 rfl ?_
      exact z_iret (pc := 163) C ρ dX7_text_163 (⟨_, rfl, by rw [r_text, if_pos hok2, if_neg hn14], rfl, by rw [up2_s, hm, f_text, if_pos hok2, if_neg hn14, show (tx_rd (im (M + 9)) T).2.2.2.1.length = k by omega], by rw [up2_n _ _ _ (by omega), ho _ (by omega)]; exact h11', fun j hj => by rw [up2_n _ _ _ (by omega), ho _ (by omega)]; exact hj2 j hj, fun c q1 q2 q3 q4 q5 => by rw [up2_n _ _ _ q2, ho _ q2]; exact hc2 c q1 q2 q3 q4 q5⟩)
    | succ r ih =>
      intro k im' hk hm ho
      refine z_iload_n (pc := 117) C dX7_text_117 rfl ?_
      refine z_aload_n (pc := 118) C dX7_text_118 rfl ?_
      refine gX7_239 (pc := 119) C dX7_text_119 (ml_K hM) ?_
      refine z_eqi (y := nI ((tx_rd (im (M + 9)) T).2.2.2.1.length)) (by rw [ho _ (by omega)]; exact h21') ?_
      refine z_icmp_geF (pc := 122) C 151 dX7_text_122 (by decide) (nI_ge (by omega) (by omega)) ?_
      refine z_aload_n (pc := 125) C dX7_text_125 rfl ?_
      refine gX7_9 (pc := 126) C dX7_text_126 (ml_K hM) (ml_r0 hM) ?_
      refine z_bipushN (pc := 129) C 106 (by decide) dX7_text_129 ?_
      refine z_bipushN (pc := 131) C 96 (by decide) dX7_text_131 ?_
      refine z_iload_n (pc := 133) C dX7_text_133 rfl ?_
      refine z_imulN (pc := 134) C dX7_text_134 ?_
      refine z_iaddN (pc := 135) C dX7_text_135 ?_
      refine z_iload_n (pc := 136) C dX7_text_136 rfl ?_
      refine z_iaddN (pc := 137) C dX7_text_137 ?_
      refine z_aload_n (pc := 138) C dX7_text_138 rfl ?_
      refine gX7_49 (pc := 139) C dX7_text_139 (ml_K hM) (ml_r20 hM) ?_
      refine z_iload_n (pc := 142) C dX7_text_142 rfl ?_
      refine z_iald (pc := 143) C dX7_text_143 (ml_a12 hM) (ml_n12 hM) (by omega) (by decide) ?_
      refine z_eqi (y := (tx_rd (im (M + 9)) T).2.2.2.1.getD k 0) (by rw [ho _ (by omega)]; exact hcs' k (by omega)) ?_
      refine z_iast (pc := 144) C dX7_text_144 (ml_a1 hM) (ml_n1 hM) (by omega) (by decide) ?_
      refine z_iincN (pc := 145) C 1 dX7_text_145 rfl (by decide) rfl ?_
      refine z_goto (pc := 148) C 117 dX7_text_148 (by decide) ?_
      refine ih (k + 1) _ (by omega) ?_ (fun c h => by rw [up2_n _ _ _ h]; exact ho c h)
      rw [up2_s, hm]
      funext j
      by_cases e : j = 106 + 96 * n7 + k
      · rw [e, upd_s, tx_pl, if_pos ⟨by omega, by omega⟩, show 106 + 96 * n7 + k - (106 + 96 * n7) = k by omega]
      · rw [upd_n _ _ e, tx_pl, tx_pl]
        by_cases e2 : 106 + 96 * n7 ≤ j ∧ j < 106 + 96 * n7 + k
        · rw [if_pos e2, if_pos ⟨by omega, by omega⟩]
        · rw [if_neg e2, if_neg (by omega)]
  refine z_if_eqF (pc := 25) C 32 dX7_text_25 (by decide) (by decide) ?_
  refine z_iconstN (pc := 28) C 1 dX7_text_28 ?_
  refine z_goto (pc := 29) C 33 dX7_text_29 (by decide) ?_
  refine z_istore_n (pc := 33) C dX7_text_33 (by decide) rfl ?_
  refine z_aload_n (pc := 34) C dX7_text_34 rfl ?_
  refine z_iconstN (pc := 35) C 0 dX7_text_35 ?_
  refine pX7_203 (pc := 36) C dX7_text_36 (ml_K hM) ?_
  refine z_iload_n (pc := 39) C dX7_text_39 rfl ?_
  refine z_if_neT (pc := 40) C 51 dX7_text_40 (by decide) (by decide) ?_
  refine z_aload_n (pc := 51) C dX7_text_51 rfl ?_
  refine gX7_9 (pc := 52) C dX7_text_52 (ml_K hM) (ml_r0 hM) ?_
  refine z_bipushN (pc := 55) C 7 (by decide) dX7_text_55 ?_
  refine z_iald (pc := 57) C dX7_text_57 (ml_a1 hM) (ml_n1 hM) (by omega) (by decide) ?_
  refine z_eqi (y := nI n7) (by rw [up2_n _ _ _ (by omega), hm22]; exact hok.2.1.2) ?_
  refine z_bipushN (pc := 58) C 14 (by decide) dX7_text_58 ?_
  refine z_icmp_neN (pc := 60) C 66 dX7_text_60 (by decide) (by omega) (by omega) (fun c_60 => ?_) (fun c_60 => ?_)
  · 
    refine z_aload_n (pc := 66) C dX7_text_66 rfl ?_
    refine gX7_9 (pc := 67) C dX7_text_67 (ml_K hM) (ml_r0 hM) ?_
    refine z_bipushN (pc := 70) C 7 (by decide) dX7_text_70 ?_
    refine z_iald (pc := 72) C dX7_text_72 (ml_a1 hM) (ml_n1 hM) (by omega) (by decide) ?_
    refine z_eqi (y := nI n7) (by rw [up2_n _ _ _ (by omega), hm22]; exact hok.2.1.2) ?_
    refine z_istore_n (pc := 73) C dX7_text_73 (by decide) rfl ?_
    refine z_aload_n (pc := 74) C dX7_text_74 rfl ?_
    refine gX7_9 (pc := 75) C dX7_text_75 (ml_K hM) (ml_r0 hM) ?_
    refine z_bipushN (pc := 78) C 78 (by decide) dX7_text_78 ?_
    refine z_iconstN (pc := 80) C 2 dX7_text_80 ?_
    refine z_iload_n (pc := 81) C dX7_text_81 rfl ?_
    refine z_imulN (pc := 82) C dX7_text_82 ?_
    refine z_iaddN (pc := 83) C dX7_text_83 ?_
    refine z_sipush (v := nI 1000) (pc := 84) C dX7_text_84 (by decide +kernel) ?_
    refine z_aload_n (pc := 87) C dX7_text_87 rfl ?_
    refine gX7_227 (pc := 88) C dX7_text_88 (ml_K hM) ?_
    refine z_eqi (y := nI (tx_key (im (M + 9)) T)) (by rw [up2_at, if_neg (by decide)]; exact h17b) ?_
    refine z_imulN (pc := 91) C dX7_text_91 ?_
    refine z_aload_n (pc := 92) C dX7_text_92 rfl ?_
    refine gX7_239 (pc := 93) C dX7_text_93 (ml_K hM) ?_
    refine z_eqi (y := nI ((tx_rd (im (M + 9)) T).2.2.2.1.length)) (by rw [up2_at, if_neg (by decide)]; exact h21) ?_
    refine z_iaddN (pc := 96) C dX7_text_96 ?_
    refine z_iast (pc := 97) C dX7_text_97 (ml_a1 hM) (ml_n1 hM) (by omega) (by decide) ?_
    refine z_aload_n (pc := 98) C dX7_text_98 rfl ?_
    refine gX7_9 (pc := 99) C dX7_text_99 (ml_K hM) (ml_r0 hM) ?_
    refine z_bipushN (pc := 102) C 78 (by decide) dX7_text_102 ?_
    refine z_iconstN (pc := 104) C 2 dX7_text_104 ?_
    refine z_iload_n (pc := 105) C dX7_text_105 rfl ?_
    refine z_imulN (pc := 106) C dX7_text_106 ?_
    refine z_iaddN (pc := 107) C dX7_text_107 ?_
    refine z_iconstN (pc := 108) C 1 dX7_text_108 ?_
    refine z_iaddN (pc := 109) C dX7_text_109 ?_
    refine z_aload_n (pc := 110) C dX7_text_110 rfl ?_
    refine gX7_245 (pc := 111) C dX7_text_111 (ml_K hM) ?_
    refine z_eqi (y := nI ((tx_rd (im (M + 9)) T).2.2.2.2)) (by rw [up2_n _ _ _ (by omega), up2_at, if_neg (by decide)]; exact h22) ?_
    refine z_iast (pc := 114) C dX7_text_114 (ml_a1 hM) (ml_n1 hM) (by omega) (by decide) ?_
    refine z_iconstN (pc := 115) C 0 dX7_text_115 ?_
    refine z_istore_n (pc := 116) C dX7_text_116 (by decide) rfl ?_
    exact loop (up2 im_22 M 11 (nI 0)) (by rw [up2_at, if_neg (by decide)]; exact h21) (by rw [up2_at, if_pos rfl]) (fun i hi => by rw [up2_n _ _ _ (by omega)]; exact hcs i hi) (fun j hj => by rw [up2_at, if_neg (by omega)]; exact hj22 j hj) (fun c q1 q2 q3 q4 q5 => by rw [up2_n _ _ _ q1]; exact hc22 c q1 q2 q3 q4 q5) c_60 (tx_rd (im (M + 9)) T).2.2.2.1.length 0 _ (by omega) (by rw [up2_s, up2_s, up2_n _ _ _ (by omega), hm22]; funext j; rw [tx_pl, if_neg (by omega)]) (fun c h => by rw [up2_n _ _ _ h, up2_n _ _ _ h])
  · 
    refine z_ldc (pc := 63) C dX7_text_63 wk_X7_101 ?_
    exact z_iret (pc := 65) C ρ dX7_text_65 (⟨_, rfl, by rw [r_text, if_pos hok2, if_pos c_60], rfl, by rw [up2_n _ _ _ (by omega), hm22, f_text, if_pos hok2, if_pos c_60], by rw [up2_at, if_pos rfl], fun j hj => by rw [up2_at, if_neg (by omega)]; exact hj22 j hj, fun c q1 q2 q3 q4 q5 => by rw [up2_n _ _ _ q1]; exact hc22 c q1 q2 q3 q4 q5⟩)
