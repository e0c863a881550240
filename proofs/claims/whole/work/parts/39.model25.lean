/-! the reference: takesE -/
def frE (M : Nat) (im im' : Mem) : Prop := (∀ j, j < 12 ∨ j = 17 ∨ 24 < j → im' M j = im M j) ∧ ∀ c, c ≠ M → c ≠ M + 12 → c ≠ M + 13 → c ≠ M + 14 → im' c = im c
def bI (x : Bool) : Int32 := if x = true then nI 1 else nI 0
/-- what is behind an E: whether it is one, its codes and operands, or the place of the fault -/
def gE (M : Nat) (im : Mem) (a : Nat → Int32) (T : Nat) (r : Bool × RS) (v : Int32) (im' : Mem) : Prop := frE M im im' ∧ (((r.1 = true ∧ tK a T r.2.1 r.2.2.1 = 0) ∧ nI 1 = v ∧ im' M 21 = nI r.2.2.2.1.length ∧ r.2.2.2.1.length ≤ 96 ∧ (∀ i, i < r.2.2.2.1.length → im' (M + 12) i = r.2.2.2.1.getD i 0) ∧ im' M 22 = nI r.2.2.2.2) ∨ (¬ (r.1 = true ∧ tK a T r.2.1 r.2.2.1 = 0) ∧ nI 0 = v ∧ im' M 13 = nI (tS a T r.2.1)))
theorem tsu_ne (ts : Nat → Bool) {i k : Nat} (x : Bool) (h : i ≠ k) : tsu ts k x i = ts i := if_neg h
theorem tsu_eq (ts : Nat → Bool) (k : Nat) (x : Bool) : tsu ts k x k = x := if_pos rfl
def hdE (E : Ex) (κ : Kx) (S : Sx) (im : Mem) (M T : Nat) : RS → List Int32 → Nat → Nat → (Nat → Bool) → Bool → Prop := fun (σ : RS) (W : List Int32) (pr nt : Nat) (ts : Nat → Bool) (wants : Bool) => ∀ (im' : Mem) (y4 : Option Value), σ.1 ≤ T → Tk M im' T σ.1 σ.2.1 → PSt M im' σ.2.2.1 W → σ.2.2.1.length + W.length ≤ σ.1 → im' M 22 = nI σ.2.2.2 → pr ≤ 8 → nt ≤ 96 → (∀ i, i ≤ pr → im' (M + 14) i = bI (ts i)) → frE M im im' → V E κ 5 0 0 28 [some (.ref M), some (.int (nI pr)), some (.int (nI nt)), some (.int (bI wants)), y4] [] S im'
def fkE (a : Nat → Int32) (T : Nat) (r : Bool × RS) : Nat → Prop := fun s => ¬ (r.1 = true ∧ tK a T r.2.1 r.2.2.1 = 0) ∧ tS a T r.2.1 = s
def skE (a : Nat → Int32) (T : Nat) (r : Bool × RS) : RS → Prop := fun s => (r.1 = true ∧ tK a T r.2.1 r.2.2.1 = 0) ∧ s = r.2
set_option maxRecDepth 100000 in
set_option maxHeartbeats 4000000 in
theorem tE_R1 {E : Ex} {κ : Kx} {S : Sx} {im : Mem} {M T : Nat} {a : Nat → Int32} {key : Int32} (C : Cx E κ cX7_takesE 5 yX7_takesE.cls (some FieldType.boolean) 4 0 0 yX7_takesE.name) (hM : ML S M) (hT : T ≤ 96) (ht : im M 11 = nI T) (hA : a = im (M + 9)) (hkey : key = im M 17) : R1 a T (hdE E κ S im M T) := by
  intro σ W pr nt ts hp hch hnt8 hH
  unfold hdE
  intro im' y4 hpT hTk hP hlen hat hpr hnt hts hfr
  show V E κ 5 0 0 28 [some (.ref M), some (.int (nI pr)), some (.int (nI nt)), some (.int (nI 1)), y4] [] S im'
  have e9 : im' (M + 9) = a := by rw [hfr.2 _ (by omega) (by omega) (by omega) (by omega)]; exact hA.symm
  have h11 : im' M 11 = nI T := by rw [hfr.1 _ (by omega)]; exact ht
  have h17 : im' M 17 = key := by rw [hfr.1 _ (by omega)]; exact hkey.symm
  have hTk0 := hTk
  unfold Tk at hTk
  rw [e9] at hTk
  obtain ⟨k13, k14, k12, k15, kw⟩ := hTk
  have hKle := tK_le a T σ.1 σ.2.1
  have hW96 := hP.2.2.2.2
  have hch2 := decide_eq_true_iff.mp hch
  have hK3 : tK a T σ.1 σ.2.1 = 3 := hch2.1
  have hsT : ¬ tS a T σ.1 = T := tK3 hK3
  have hV : im' M 15 = nI 33 := by rw [k15 hsT]; exact hch2.2
  have hgt := tE_gt hpT hsT
  have hge := tS_ge a T σ.1
  have hle := tE_le (a := a) hpT
  refine z_iload_n (pc := 28) C dX7_takesE_28 rfl ?_
  refine z_if_neT (pc := 29) C 39 dX7_takesE_29 (by decide) (by decide) ?_
  refine z_iload_n (pc := 39) C dX7_takesE_39 rfl ?_
  refine z_if_eqF (pc := 40) C 180 dX7_takesE_40 (by decide) (by decide) ?_
  refine z_aload_n (pc := 43) C dX7_takesE_43 rfl ?_
  refine gX7_215 (pc := 44) C dX7_takesE_44 (ml_K hM) ?_
  refine z_eqi (y := nI 3) (by rw [k14, hK3]) ?_
  refine z_iconstN (pc := 47) C 3 dX7_takesE_47 ?_
  refine z_icmp_neF (pc := 48) C 97 dX7_takesE_48 (by decide) (by decide) ?_
  refine z_aload_n (pc := 51) C dX7_takesE_51 rfl ?_
  refine gX7_221 (pc := 52) C dX7_takesE_52 (ml_K hM) ?_
  refine z_eqi (y := nI 33) (hV) ?_
  refine z_bipushN (pc := 55) C 33 (by decide) dX7_takesE_55 ?_
  refine z_icmp_neF (pc := 57) C 97 dX7_takesE_57 (by decide) (by decide) ?_
  refine z_iload_n (pc := 60) C dX7_takesE_60 rfl ?_
  refine z_bipushN (pc := 61) C 8 (by decide) dX7_takesE_61 ?_
  refine z_icmp_geF (pc := 63) C 97 dX7_takesE_63 (by decide) (nI_ge (by omega) (by omega)) ?_
  refine z_aload_n (pc := 66) C dX7_takesE_66 rfl ?_
  refine gX7_52 (pc := 67) C dX7_takesE_67 (ml_K hM) (ml_r23 hM) ?_
  refine z_aload_n (pc := 70) C dX7_takesE_70 rfl ?_
  refine gX7_233 (pc := 71) C dX7_takesE_71 (ml_K hM) ?_
  refine z_eqi (y := nI W.length) (hP.2.1) ?_
  refine z_bipush (v := -10) (pc := 74) C dX7_takesE_74 (by decide) ?_
  refine z_iast (pc := 76) C dX7_takesE_76 (ml_a13 hM) (ml_n13 hM) (by omega) (by decide) ?_
  refine z_aload_n (pc := 77) C dX7_takesE_77 rfl ?_
  refine z_dup (pc := 78) C dX7_takesE_78 rfl ?_
  refine gX7_233 (pc := 79) C dX7_takesE_79 (ml_K hM) ?_
  refine z_eqi (y := nI W.length) (by rw [up2_n _ _ _ (by omega)]; exact hP.2.1) ?_
  refine z_iconstN (pc := 82) C 1 dX7_takesE_82 ?_
  refine z_iaddN (pc := 83) C dX7_takesE_83 ?_
  refine pX7_233 (pc := 84) C dX7_takesE_84 (ml_K hM) ?_
  refine z_iincN (pc := 87) C 1 dX7_takesE_87 rfl (by decide) rfl ?_
  refine z_aload_n (pc := 90) C dX7_takesE_90 rfl ?_
  refine kX7_230 (pc := 91) C dX7_takesE_91 (m7_go κ.2.1 E S (up2 (up2 im' (M + 13) W.length (-10)) M 24 (nI (W.length + 1))) M hM T hT (by rw [up2_at, if_neg (by decide), up2_n _ _ _ (by omega)]; exact h11) (tE a T σ.1) (tE_le hpT) (by rw [up2_at, if_neg (by decide), up2_n _ _ _ (by omega)]; exact k12) (tWb a T σ.1) (by rw [up2_at, if_neg (by decide), up2_n _ _ _ (by omega)]; exact kw hsT)) (ml_K hM) (by decide) (Nat.le_of_ble_eq_true rfl) (Nat.le_refl _) (Nat.le_refl _) (fun S_91 im_91 h_91 => ?_)
  obtain ⟨rfl, hgo⟩ := h_91
  have hTk2 := gGo_Tk hT (tE_le hpT) (by rw [up2_at, if_neg (by decide), up2_n _ _ _ (by omega)]; exact kw hsT) hgo
  obtain ⟨-, -, -, -, -, -, hk3, hc3⟩ := hgo
  have hP2 : PSt M im_91 σ.2.2.1 (-10 :: W) := ⟨by rw [hk3 _ (by decide) (by decide) (by decide) (by decide) (by decide), up2_at, if_neg (by decide), up2_n _ _ _ (by omega)]; exact hP.1, by rw [hk3 _ (by decide) (by decide) (by decide) (by decide) (by decide), up2_at, if_pos rfl]; rfl, by rw [hc3 _ (by omega), up2_n _ _ _ (by omega), up2_n _ _ _ (by omega)]; exact hP.2.2.1, by rw [hc3 _ (by omega), up2_n _ _ _ (by omega), up2_s]; exact stk_push hP.2.2.2.1 _, by simp only [List.length_cons]; omega⟩
  refine z_goto (pc := 94) C 172 dX7_takesE_94 (by decide) ?_
  refine z_aload_n (pc := 172) C dX7_takesE_172 rfl ?_
  refine kX7_254 (pc := 173) C dX7_takesE_173 (m7_notsOpen κ.2.1 E S im_91 M hM _ _ hP2) (ml_K hM) (by decide) (Nat.le_of_ble_eq_true rfl) (Nat.le_refl _) (Nat.le_refl _) (fun v_173 S_173 im_173 h_173 => ?_)
  obtain ⟨rfl, rfl, rfl⟩ := h_173
  refine z_istore_n (pc := 176) C dX7_takesE_176 (by decide) rfl ?_
  refine z_goto (pc := 177) C 28 dX7_takesE_177 (by decide) ?_
  exact hH im_91 _ (tE_le hpT) hTk2 hP2 (by show σ.2.2.1.length + (W.length + 1) ≤ tE a T σ.1; omega) (by rw [hk3 _ (by decide) (by decide) (by decide) (by decide) (by decide), up2_at, if_neg (by decide), up2_n _ _ _ (by omega)]; exact hat) (by omega) (by have := nb_le (-10 :: W); have := hP2.2.2.2.2; omega) (by intro i hi; rw [hc3 _ (by omega), up2_n _ _ _ (by omega), up2_n _ _ _ (by omega)]; exact hts i hi) ⟨fun j hj => by rw [hk3 _ (by omega) (by omega) (by omega) (by omega) (by omega)]; rw [up2_at, if_neg (by omega), up2_n _ _ _ (by omega)]; exact hfr.1 j hj, fun c q1 q2 q3 q4 => by rw [hc3 c q1]; rw [up2_n _ _ _ q1, up2_n _ _ _ q3]; exact hfr.2 c q1 q2 q3 q4⟩
set_option maxRecDepth 100000 in
set_option maxHeartbeats 4000000 in
theorem tE_R2 {E : Ex} {κ : Kx} {S : Sx} {im : Mem} {M T : Nat} {a : Nat → Int32} {key : Int32} (C : Cx E κ cX7_takesE 5 yX7_takesE.cls (some FieldType.boolean) 4 0 0 yX7_takesE.name) (hM : ML S M) (hT : T ≤ 96) (ht : im M 11 = nI T) (hA : a = im (M + 9)) (hkey : key = im M 17) : R2 a T (hdE E κ S im M T) := by
  intro σ W pr nt ts hp hch hpr8 hH
  unfold hdE
  intro im' y4 hpT hTk hP hlen hat hpr hnt hts hfr
  show V E κ 5 0 0 28 [some (.ref M), some (.int (nI pr)), some (.int (nI nt)), some (.int (nI 1)), y4] [] S im'
  have e9 : im' (M + 9) = a := by rw [hfr.2 _ (by omega) (by omega) (by omega) (by omega)]; exact hA.symm
  have h11 : im' M 11 = nI T := by rw [hfr.1 _ (by omega)]; exact ht
  have h17 : im' M 17 = key := by rw [hfr.1 _ (by omega)]; exact hkey.symm
  have hTk0 := hTk
  unfold Tk at hTk
  rw [e9] at hTk
  obtain ⟨k13, k14, k12, k15, kw⟩ := hTk
  have hKle := tK_le a T σ.1 σ.2.1
  have hW96 := hP.2.2.2.2
  have hch2 := decide_eq_true_iff.mp hch
  have hK3 : tK a T σ.1 σ.2.1 = 3 := hch2.1
  have hsT : ¬ tS a T σ.1 = T := tK3 hK3
  have hV : im' M 15 = nI 40 := by rw [k15 hsT]; exact hch2.2
  have hgt := tE_gt hpT hsT
  have hge := tS_ge a T σ.1
  have hle := tE_le (a := a) hpT
  refine z_iload_n (pc := 28) C dX7_takesE_28 rfl ?_
  refine z_if_neT (pc := 29) C 39 dX7_takesE_29 (by decide) (by decide) ?_
  refine z_iload_n (pc := 39) C dX7_takesE_39 rfl ?_
  refine z_if_eqF (pc := 40) C 180 dX7_takesE_40 (by decide) (by decide) ?_
  refine z_aload_n (pc := 43) C dX7_takesE_43 rfl ?_
  refine gX7_215 (pc := 44) C dX7_takesE_44 (ml_K hM) ?_
  refine z_eqi (y := nI 3) (by rw [k14, hK3]) ?_
  refine z_iconstN (pc := 47) C 3 dX7_takesE_47 ?_
  refine z_icmp_neF (pc := 48) C 97 dX7_takesE_48 (by decide) (by decide) ?_
  refine z_aload_n (pc := 51) C dX7_takesE_51 rfl ?_
  refine gX7_221 (pc := 52) C dX7_takesE_52 (ml_K hM) ?_
  refine z_eqi (y := nI 40) (hV) ?_
  refine z_bipushN (pc := 55) C 33 (by decide) dX7_takesE_55 ?_
  refine z_icmp_neT (pc := 57) C 97 dX7_takesE_57 (by decide) (by decide) ?_
  refine z_aload_n (pc := 97) C dX7_takesE_97 rfl ?_
  refine gX7_215 (pc := 98) C dX7_takesE_98 (ml_K hM) ?_
  refine z_eqi (y := nI 3) (by rw [k14, hK3]) ?_
  refine z_iconstN (pc := 101) C 3 dX7_takesE_101 ?_
  refine z_icmp_neF (pc := 102) C 158 dX7_takesE_102 (by decide) (by decide) ?_
  refine z_aload_n (pc := 105) C dX7_takesE_105 rfl ?_
  refine gX7_221 (pc := 106) C dX7_takesE_106 (ml_K hM) ?_
  refine z_eqi (y := nI 40) (hV) ?_
  refine z_bipushN (pc := 109) C 40 (by decide) dX7_takesE_109 ?_
  refine z_icmp_neF (pc := 111) C 158 dX7_takesE_111 (by decide) (by decide) ?_
  refine z_iload_n (pc := 114) C dX7_takesE_114 rfl ?_
  refine z_bipushN (pc := 115) C 8 (by decide) dX7_takesE_115 ?_
  refine z_icmp_geF (pc := 117) C 158 dX7_takesE_117 (by decide) (nI_ge (by omega) (by omega)) ?_
  refine z_aload_n (pc := 120) C dX7_takesE_120 rfl ?_
  refine gX7_52 (pc := 121) C dX7_takesE_121 (ml_K hM) (ml_r23 hM) ?_
  refine z_aload_n (pc := 124) C dX7_takesE_124 rfl ?_
  refine gX7_233 (pc := 125) C dX7_takesE_125 (ml_K hM) ?_
  refine z_eqi (y := nI W.length) (hP.2.1) ?_
  refine z_bipush (v := -11) (pc := 128) C dX7_takesE_128 (by decide) ?_
  refine z_iast (pc := 130) C dX7_takesE_130 (ml_a13 hM) (ml_n13 hM) (by omega) (by decide) ?_
  refine z_aload_n (pc := 131) C dX7_takesE_131 rfl ?_
  refine z_dup (pc := 132) C dX7_takesE_132 rfl ?_
  refine gX7_233 (pc := 133) C dX7_takesE_133 (ml_K hM) ?_
  refine z_eqi (y := nI W.length) (by rw [up2_n _ _ _ (by omega)]; exact hP.2.1) ?_
  refine z_iconstN (pc := 136) C 1 dX7_takesE_136 ?_
  refine z_iaddN (pc := 137) C dX7_takesE_137 ?_
  refine pX7_233 (pc := 138) C dX7_takesE_138 (ml_K hM) ?_
  refine z_iincN (pc := 141) C 1 dX7_takesE_141 rfl (by decide) rfl ?_
  refine z_aload_n (pc := 144) C dX7_takesE_144 rfl ?_
  refine gX7_55 (pc := 145) C dX7_takesE_145 (ml_K hM) (ml_r25 hM) ?_
  refine z_iload_n (pc := 148) C dX7_takesE_148 rfl ?_
  refine z_iconstN (pc := 149) C 0 dX7_takesE_149 ?_
  refine z_zast (pc := 150) C dX7_takesE_150 (ml_a14 hM) (ml_n14 hM) (by omega) (by decide) (by decide) ?_
  refine z_aload_n (pc := 151) C dX7_takesE_151 rfl ?_
  refine kX7_230 (pc := 152) C dX7_takesE_152 (m7_go κ.2.1 E S (up2 (up2 (up2 im' (M + 13) W.length (-11)) M 24 (nI (W.length + 1))) (M + 14) (pr + 1) (nI 0)) M hM T hT (by rw [up2_n _ _ _ (by omega), up2_at, if_neg (by decide), up2_n _ _ _ (by omega)]; exact h11) (tE a T σ.1) (tE_le hpT) (by rw [up2_n _ _ _ (by omega), up2_at, if_neg (by decide), up2_n _ _ _ (by omega)]; exact k12) (tWb a T σ.1) (by rw [up2_n _ _ _ (by omega), up2_at, if_neg (by decide), up2_n _ _ _ (by omega)]; exact kw hsT)) (ml_K hM) (by decide) (Nat.le_of_ble_eq_true rfl) (Nat.le_refl _) (Nat.le_refl _) (fun S_152 im_152 h_152 => ?_)
  obtain ⟨rfl, hgo⟩ := h_152
  have hTk2 := gGo_Tk hT (tE_le hpT) (by rw [up2_n _ _ _ (by omega), up2_at, if_neg (by decide), up2_n _ _ _ (by omega)]; exact kw hsT) hgo
  obtain ⟨-, -, -, -, -, -, hk3, hc3⟩ := hgo
  have hP2 : PSt M im_152 σ.2.2.1 (-11 :: W) := ⟨by rw [hk3 _ (by decide) (by decide) (by decide) (by decide) (by decide), up2_n _ _ _ (by omega), up2_at, if_neg (by decide), up2_n _ _ _ (by omega)]; exact hP.1, by rw [hk3 _ (by decide) (by decide) (by decide) (by decide) (by decide), up2_n _ _ _ (by omega), up2_at, if_pos rfl]; rfl, by rw [hc3 _ (by omega), up2_n _ _ _ (by omega), up2_n _ _ _ (by omega), up2_n _ _ _ (by omega)]; exact hP.2.2.1, by rw [hc3 _ (by omega), up2_n _ _ _ (by omega), up2_n _ _ _ (by omega), up2_s]; exact stk_push hP.2.2.2.1 _, by simp only [List.length_cons]; omega⟩
  refine z_goto (pc := 155) C 172 dX7_takesE_155 (by decide) ?_
  refine z_aload_n (pc := 172) C dX7_takesE_172 rfl ?_
  refine kX7_254 (pc := 173) C dX7_takesE_173 (m7_notsOpen κ.2.1 E S im_152 M hM _ _ hP2) (ml_K hM) (by decide) (Nat.le_of_ble_eq_true rfl) (Nat.le_refl _) (Nat.le_refl _) (fun v_173 S_173 im_173 h_173 => ?_)
  obtain ⟨rfl, rfl, rfl⟩ := h_173
  refine z_istore_n (pc := 176) C dX7_takesE_176 (by decide) rfl ?_
  refine z_goto (pc := 177) C 28 dX7_takesE_177 (by decide) ?_
  exact hH im_152 _ (tE_le hpT) hTk2 hP2 (by show σ.2.2.1.length + (W.length + 1) ≤ tE a T σ.1; omega) (by rw [hk3 _ (by decide) (by decide) (by decide) (by decide) (by decide), up2_n _ _ _ (by omega), up2_at, if_neg (by decide), up2_n _ _ _ (by omega)]; exact hat) (by omega) (by have := nb_le (-11 :: W); have := hP2.2.2.2.2; omega) (by intro i hi; rw [hc3 _ (by omega), up2_s]; by_cases e : i = pr + 1; (rw [e, upd_s, tsu_eq]; rfl); rw [upd_n _ _ e, tsu_ne _ _ e, up2_n _ _ _ (by omega), up2_n _ _ _ (by omega)]; exact hts i (by omega)) ⟨fun j hj => by rw [hk3 _ (by omega) (by omega) (by omega) (by omega) (by omega)]; rw [up2_n _ _ _ (by omega), up2_at, if_neg (by omega), up2_n _ _ _ (by omega)]; exact hfr.1 j hj, fun c q1 q2 q3 q4 => by rw [hc3 c q1]; rw [up2_n _ _ _ q4, up2_n _ _ _ q1, up2_n _ _ _ q3]; exact hfr.2 c q1 q2 q3 q4⟩
set_option maxRecDepth 100000 in
set_option maxHeartbeats 4000000 in
theorem tE_R3 {E : Ex} {κ : Kx} {S : Sx} {im : Mem} {M T : Nat} {a : Nat → Int32} {key : Int32} (C : Cx E κ cX7_takesE 5 yX7_takesE.cls (some FieldType.boolean) 4 0 0 yX7_takesE.name) (hM : ML S M) (hT : T ≤ 96) (ht : im M 11 = nI T) (hA : a = im (M + 9)) (hkey : key = im M 17) : R3 a T key (hdE E κ S im M T) := by
  intro σ W pr nt ts hp hch hH
  unfold hdE
  intro im' y4 hpT hTk hP hlen hat hpr hnt hts hfr
  show V E κ 5 0 0 28 [some (.ref M), some (.int (nI pr)), some (.int (nI nt)), some (.int (nI 1)), y4] [] S im'
  have e9 : im' (M + 9) = a := by rw [hfr.2 _ (by omega) (by omega) (by omega) (by omega)]; exact hA.symm
  have h11 : im' M 11 = nI T := by rw [hfr.1 _ (by omega)]; exact ht
  have h17 : im' M 17 = key := by rw [hfr.1 _ (by omega)]; exact hkey.symm
  have hTk0 := hTk
  unfold Tk at hTk
  rw [e9] at hTk
  obtain ⟨k13, k14, k12, k15, kw⟩ := hTk
  have hKle := tK_le a T σ.1 σ.2.1
  have hW96 := hP.2.2.2.2
  have hpt := isPb_iff.mp hch
  have hK12 : tK a T σ.1 σ.2.1 = 1 ∨ tK a T σ.1 σ.2.1 = 2 := hpt.elim Or.inr (fun h => Or.inl h.1)
  obtain ⟨hsT, hwb⟩ := tK12 hK12
  have hgt := tE_gt hpT hsT
  have hge := tS_ge a T σ.1
  have hle := tE_le (a := a) hpT
  have hn3 : ¬ nI (tK a T σ.1 σ.2.1) = nI 3 := by rw [nI_eq (by omega) (by omega)]; omega
  refine z_iload_n (pc := 28) C dX7_takesE_28 rfl ?_
  refine z_if_neT (pc := 29) C 39 dX7_takesE_29 (by decide) (by decide) ?_
  refine z_iload_n (pc := 39) C dX7_takesE_39 rfl ?_
  refine z_if_eqF (pc := 40) C 180 dX7_takesE_40 (by decide) (by decide) ?_
  refine z_aload_n (pc := 43) C dX7_takesE_43 rfl ?_
  refine gX7_215 (pc := 44) C dX7_takesE_44 (ml_K hM) ?_
  refine z_eqi (y := nI (tK a T σ.1 σ.2.1)) (k14) ?_
  refine z_iconstN (pc := 47) C 3 dX7_takesE_47 ?_
  refine z_icmp_neT (pc := 48) C 97 dX7_takesE_48 (by decide) (hn3) ?_
  refine z_aload_n (pc := 97) C dX7_takesE_97 rfl ?_
  refine gX7_215 (pc := 98) C dX7_takesE_98 (ml_K hM) ?_
  refine z_eqi (y := nI (tK a T σ.1 σ.2.1)) (k14) ?_
  refine z_iconstN (pc := 101) C 3 dX7_takesE_101 ?_
  refine z_icmp_neT (pc := 102) C 158 dX7_takesE_102 (by decide) (hn3) ?_
  refine z_aload_n (pc := 158) C dX7_takesE_158 rfl ?_
  refine kX7_251 (pc := 159) C dX7_takesE_159 (m7_takesPart κ.2.1 E S im' M hM T hT h11 σ.1 hpT σ.2.1 hTk0 σ.2.2.1 W hP (fun _ => by omega) σ.2.2.2 hat) (ml_K hM) (by decide) (Nat.le_of_ble_eq_true rfl) (Nat.le_refl _) (Nat.le_refl _) (fun v_159 S_159 im_159 h_159 => ?_)
  rw [e9, h17] at h_159
  rcases h_159 with ⟨hn, -⟩ | ⟨-, rfl, rfl, hP2, h22, hTk2, hk3, hc3⟩
  · exact absurd hpt hn
  refine z_if_eqF (pc := 162) C 170 dX7_takesE_162 (by decide) (by decide) ?_
  refine z_iconstN (pc := 165) C 0 dX7_takesE_165 ?_
  refine z_istore_n (pc := 166) C dX7_takesE_166 (by decide) rfl ?_
  refine z_goto (pc := 167) C 172 dX7_takesE_167 (by decide) ?_
  refine z_aload_n (pc := 172) C dX7_takesE_172 rfl ?_
  refine kX7_254 (pc := 173) C dX7_takesE_173 (m7_notsOpen κ.2.1 E S im_159 M hM _ _ hP2) (ml_K hM) (by decide) (Nat.le_of_ble_eq_true rfl) (Nat.le_refl _) (Nat.le_refl _) (fun v_173 S_173 im_173 h_173 => ?_)
  obtain ⟨rfl, rfl, rfl⟩ := h_173
  refine z_istore_n (pc := 176) C dX7_takesE_176 (by decide) rfl ?_
  refine z_goto (pc := 177) C 28 dX7_takesE_177 (by decide) ?_
  exact hH im_159 _ (tE_le hpT) (by rw [show (r_ap (r_pt a T key σ) (stl 6 W).1).2.1 = true from hwb]; exact hTk2) hP2 (by have := stl_len 6 W; show (σ.2.2.1 ++ [_] ++ (stl 6 W).1).length + (stl 6 W).2.length ≤ tE a T σ.1; rw [List.length_append, List.length_append, List.length_singleton]; omega) h22 hpr (by have := nb_le (stl 6 W).2; have := hP2.2.2.2.2; omega) (fun i hi => by rw [hc3 _ (by omega) (by omega)]; exact hts i hi) ⟨fun j hj => by rw [hk3 j (by omega)]; exact hfr.1 j hj, fun c q1 q2 q3 q4 => by rw [hc3 c q1 q2]; exact hfr.2 c q1 q2 q3 q4⟩
set_option maxRecDepth 100000 in
set_option maxHeartbeats 4000000 in
theorem tE_R4 {E : Ex} {κ : Kx} {S : Sx} {im : Mem} {M T : Nat} {a : Nat → Int32} {key : Int32} (C : Cx E κ cX7_takesE 5 yX7_takesE.cls (some FieldType.boolean) 4 0 0 yX7_takesE.name) (hM : ML S M) (hT : T ≤ 96) (ht : im M 11 = nI T) (hA : a = im (M + 9)) (hkey : key = im M 17) {r : Bool × RS} (ρ : Rt E κ 0 0 (pI (fun v S' im' => S = S' ∧ gE M im a T r v im'))) : R4 a T key (hdE E κ S im M T) (fkE a T r) := by
  intro σ W pr nt ts hp e2 e4 e1 hFk
  unfold hdE
  intro im' y4 hpT hTk hP hlen hat hpr hnt hts hfr
  show V E κ 5 0 0 28 [some (.ref M), some (.int (nI pr)), some (.int (nI nt)), some (.int (nI 1)), y4] [] S im'
  have e9 : im' (M + 9) = a := by rw [hfr.2 _ (by omega) (by omega) (by omega) (by omega)]; exact hA.symm
  have h11 : im' M 11 = nI T := by rw [hfr.1 _ (by omega)]; exact ht
  have h17 : im' M 17 = key := by rw [hfr.1 _ (by omega)]; exact hkey.symm
  have hTk0 := hTk
  unfold Tk at hTk
  rw [e9] at hTk
  obtain ⟨k13, k14, k12, k15, kw⟩ := hTk
  have hKle := tK_le a T σ.1 σ.2.1
  have hW96 := hP.2.2.2.2
  have hle := tE_le (a := a) hpT
  refine z_iload_n (pc := 28) C dX7_takesE_28 rfl ?_
  refine z_if_neT (pc := 29) C 39 dX7_takesE_29 (by decide) (by decide) ?_
  refine z_iload_n (pc := 39) C dX7_takesE_39 rfl ?_
  refine z_if_eqF (pc := 40) C 180 dX7_takesE_40 (by decide) (by decide) ?_
  refine z_aload_n (pc := 43) C dX7_takesE_43 rfl ?_
  refine gX7_215 (pc := 44) C dX7_takesE_44 (ml_K hM) ?_
  refine z_eqi (y := nI (tK a T σ.1 σ.2.1)) (k14) ?_
  refine z_iconstN (pc := 47) C 3 dX7_takesE_47 ?_
  have j_158 : V E κ 5 0 0 158 [some (.ref M), some (.int (nI pr)), some (.int (nI nt)), some (.int (nI 1)), y4] [] S im' := by
    refine z_aload_n (pc := 158) C dX7_takesE_158 rfl ?_
    refine kX7_251 (pc := 159) C dX7_takesE_159 (m7_takesPart κ.2.1 E S im' M hM T hT h11 σ.1 hpT σ.2.1 hTk0 σ.2.2.1 W hP (fun h => absurd (isPb_iff.mpr (by rw [e9, h17] at h; exact h)) e1) σ.2.2.2 hat) (ml_K hM) (by decide) (Nat.le_of_ble_eq_true rfl) (Nat.le_refl _) (Nat.le_refl _) (fun v_159 S_159 im_159 h_159 => ?_)
    rw [e9, h17] at h_159
    rcases h_159 with ⟨hn, rfl, rfl, rfl⟩ | ⟨hn, -⟩
    case inr => exact absurd (isPb_iff.mpr hn) e1
    refine z_if_eqT (pc := 162) C 170 dX7_takesE_162 (by decide) (by decide) ?_
    refine z_iconstN (pc := 170) C 0 dX7_takesE_170 ?_
    exact z_zret (pc := 171) C ρ dX7_takesE_171 (by decide) (⟨_, rfl, rfl, hfr, Or.inr ⟨hFk.1, rfl, by rw [hFk.2]; exact k13⟩⟩)
  refine z_icmp_neN (pc := 48) C 97 dX7_takesE_48 (by decide) (by omega) (by omega) (fun c_48 => ?_) (fun c_48 => ?_)
  · 
    refine z_aload_n (pc := 97) C dX7_takesE_97 rfl ?_
    refine gX7_215 (pc := 98) C dX7_takesE_98 (ml_K hM) ?_
    refine z_eqi (y := nI (tK a T σ.1 σ.2.1)) (k14) ?_
    refine z_iconstN (pc := 101) C 3 dX7_takesE_101 ?_
    refine z_icmp_neN (pc := 102) C 158 dX7_takesE_102 (by decide) (by omega) (by omega) (fun c_102 => ?_) (fun c_102 => ?_)
    · 
      exact j_158
    · 
      refine z_aload_n (pc := 105) C dX7_takesE_105 rfl ?_
      refine gX7_221 (pc := 106) C dX7_takesE_106 (ml_K hM) ?_
      refine z_eqi (y := tV a T σ.1) (k15 (tK3 c_102)) ?_
      refine z_bipushN (pc := 109) C 40 (by decide) dX7_takesE_109 ?_
      refine z_icmp_ne (pc := 111) C 158 dX7_takesE_111 (by decide) (fun c_111 => ?_) (fun c_111 => ?_)
      · 
        exact j_158
      · 
        refine z_iload_n (pc := 114) C dX7_takesE_114 rfl ?_
        refine z_bipushN (pc := 115) C 8 (by decide) dX7_takesE_115 ?_
        refine z_icmp_geT (pc := 117) C 158 dX7_takesE_117 (by decide) (nI_le (Nat.le_of_not_lt (fun h => e4 ⟨decide_eq_true ⟨c_102, c_111⟩, h⟩)) (by omega)) ?_
        exact j_158
  · 
    refine z_aload_n (pc := 51) C dX7_takesE_51 rfl ?_
    refine gX7_221 (pc := 52) C dX7_takesE_52 (ml_K hM) ?_
    refine z_eqi (y := tV a T σ.1) (k15 (tK3 c_48)) ?_
    refine z_bipushN (pc := 55) C 33 (by decide) dX7_takesE_55 ?_
    refine z_icmp_ne (pc := 57) C 97 dX7_takesE_57 (by decide) (fun c_57 => ?_) (fun c_57 => ?_)
    · 
      refine z_aload_n (pc := 97) C dX7_takesE_97 rfl ?_
      refine gX7_215 (pc := 98) C dX7_takesE_98 (ml_K hM) ?_
      refine z_eqi (y := nI (tK a T σ.1 σ.2.1)) (k14) ?_
      refine z_iconstN (pc := 101) C 3 dX7_takesE_101 ?_
      refine z_icmp_neN (pc := 102) C 158 dX7_takesE_102 (by decide) (by omega) (by omega) (fun c_102 => ?_) (fun c_102 => ?_)
      · 
        exact j_158
      · 
        refine z_aload_n (pc := 105) C dX7_takesE_105 rfl ?_
        refine gX7_221 (pc := 106) C dX7_takesE_106 (ml_K hM) ?_
        refine z_eqi (y := tV a T σ.1) (k15 (tK3 c_102)) ?_
        refine z_bipushN (pc := 109) C 40 (by decide) dX7_takesE_109 ?_
        refine z_icmp_ne (pc := 111) C 158 dX7_takesE_111 (by decide) (fun c_111 => ?_) (fun c_111 => ?_)
        · 
          exact j_158
        · 
          refine z_iload_n (pc := 114) C dX7_takesE_114 rfl ?_
          refine z_bipushN (pc := 115) C 8 (by decide) dX7_takesE_115 ?_
          refine z_icmp_geT (pc := 117) C 158 dX7_takesE_117 (by decide) (nI_le (Nat.le_of_not_lt (fun h => e4 ⟨decide_eq_true ⟨c_102, c_111⟩, h⟩)) (by omega)) ?_
          exact j_158
    · 
      refine z_iload_n (pc := 60) C dX7_takesE_60 rfl ?_
      refine z_bipushN (pc := 61) C 8 (by decide) dX7_takesE_61 ?_
      refine z_icmp_geT (pc := 63) C 97 dX7_takesE_63 (by decide) (nI_le (Nat.le_of_not_lt (fun h => e2 ⟨decide_eq_true ⟨c_48, c_57⟩, h⟩)) (by omega)) ?_
      refine z_aload_n (pc := 97) C dX7_takesE_97 rfl ?_
      refine gX7_215 (pc := 98) C dX7_takesE_98 (ml_K hM) ?_
      refine z_eqi (y := nI (tK a T σ.1 σ.2.1)) (k14) ?_
      refine z_iconstN (pc := 101) C 3 dX7_takesE_101 ?_
      refine z_icmp_neN (pc := 102) C 158 dX7_takesE_102 (by decide) (by omega) (by omega) (fun c_102 => ?_) (fun c_102 => ?_)
      · 
        exact j_158
      · 
        refine z_aload_n (pc := 105) C dX7_takesE_105 rfl ?_
        refine gX7_221 (pc := 106) C dX7_takesE_106 (ml_K hM) ?_
        refine z_eqi (y := tV a T σ.1) (k15 (tK3 c_102)) ?_
        refine z_bipushN (pc := 109) C 40 (by decide) dX7_takesE_109 ?_
        refine z_icmp_ne (pc := 111) C 158 dX7_takesE_111 (by decide) (fun c_111 => ?_) (fun c_111 => ?_)
        · 
          exact j_158
        · 
          refine z_iload_n (pc := 114) C dX7_takesE_114 rfl ?_
          refine z_bipushN (pc := 115) C 8 (by decide) dX7_takesE_115 ?_
          refine z_icmp_geT (pc := 117) C 158 dX7_takesE_117 (by decide) (nI_le (Nat.le_of_not_lt (fun h => e4 ⟨decide_eq_true ⟨c_102, c_111⟩, h⟩)) (by omega)) ?_
          exact j_158
