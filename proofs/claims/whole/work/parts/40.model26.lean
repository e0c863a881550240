/-! the reference: takesE, second half -/
theorem bI_0 {x : Bool} (h : bI x = 0) : ¬ x = true := by
  intro e
  subst e
  exact absurd h (by decide)
theorem bI_n {x : Bool} (h : ¬ bI x = 0) : x = true := by
  cases x with
  | true => rfl
  | false => exact absurd rfl h
theorem bI_dec (P : Prop) [Decidable P] : (if P then nI 1 else nI 0) = bI (decide P) := by
  by_cases h : P
  · rw [if_pos h, decide_eq_true h]; rfl
  · rw [if_neg h, decide_eq_false h]; rfl
theorem pr_dec {k : Nat} (h : 0 < k) : nI k + Int32.ofInt (-1) = nI (k - 1) := by
  obtain ⟨m, rfl⟩ : ∃ m, k = m + 1 := ⟨k - 1, by omega⟩
  rw [show Int32.ofInt (-1) = -1 by decide, ← Int32.sub_eq_add_neg, nI_pred]
  rfl
set_option maxRecDepth 100000 in
set_option maxHeartbeats 4000000 in
theorem tE_R8 {E : Ex} {κ : Kx} {S : Sx} {im : Mem} {M T : Nat} {a : Nat → Int32} {key : Int32} (C : Cx E κ cX7_takesE 5 yX7_takesE.cls (some FieldType.boolean) 4 0 0 yX7_takesE.name) (hM : ML S M) (hT : T ≤ 96) (ht : im M 11 = nI T) (hA : a = im (M + 9)) (hkey : key = im M 17) {r : Bool × RS} (ρ : Rt E κ 0 0 (pI (fun v S' im' => S = S' ∧ gE M im a T r v im'))) : R8 a T (hdE E κ S im M T) (fkE a T r) (skE a T r) := by
  intro σ W pr nt ts hp hK0 hS hF
  unfold hdE
  intro im' y4 hpT hTk hP hlen hat hpr hnt hts hfr
  show V E κ 5 0 0 28 [some (.ref M), some (.int (nI pr)), some (.int (nI nt)), some (.int (nI 0)), y4] [] S im'
  have e9 : im' (M + 9) = a := by rw [hfr.2 _ (by omega) (by omega) (by omega) (by omega)]; exact hA.symm
  have h11 : im' M 11 = nI T := by rw [hfr.1 _ (by omega)]; exact ht
  have h17 : im' M 17 = key := by rw [hfr.1 _ (by omega)]; exact hkey.symm
  have hTk0 := hTk
  unfold Tk at hTk
  rw [e9] at hTk
  obtain ⟨k13, k14, k12, k15, kw⟩ := hTk
  have hKle := tK_le a T σ.1 σ.2.1
  have hW96 := hP.2.2.2.2
  refine z_iload_n (pc := 28) C dX7_takesE_28 rfl ?_
  refine z_if_neF (pc := 29) C 39 dX7_takesE_29 (by decide) (by decide) ?_
  refine z_aload_n (pc := 32) C dX7_takesE_32 rfl ?_
  refine gX7_215 (pc := 33) C dX7_takesE_33 (ml_K hM) ?_
  refine z_eqi (y := nI 0) (by rw [k14, hK0]) ?_
  refine z_if_eqT (pc := 36) C 345 dX7_takesE_36 (by decide) (by decide) ?_
  refine z_aload_n (pc := 345) C dX7_takesE_345 rfl ?_
  refine z_iconstN (pc := 346) C 0 dX7_takesE_346 ?_
  refine kX7_248 (pc := 347) C dX7_takesE_347 (m7_settle κ.2.1 E S im' M hM 0 (by decide) σ.2.2.1 W hP) (ml_K hM) (by decide) (Nat.le_of_ble_eq_true rfl) (Nat.le_refl _) (Nat.le_refl _) (fun S_347 im_347 h_347 => ?_)
  obtain ⟨rfl, hP2, hk3, hc3⟩ := h_347
  refine z_iload_n (pc := 350) C dX7_takesE_350 rfl ?_
  refine z_if_neN (pc := 351) C 358 dX7_takesE_351 (by decide) (by omega) (fun c_351 => ?_) (fun c_351 => ?_)
  · 
    refine z_iconstN (pc := 358) C 0 dX7_takesE_358 ?_
    exact z_zret (pc := 359) C ρ dX7_takesE_359 (by decide) (⟨_, rfl, rfl, ⟨fun j hj => by rw [hk3 _ (by omega) (by omega)]; exact hfr.1 j hj, fun c q1 q2 q3 q4 => by rw [hc3 c q1 q2]; exact hfr.2 c q1 q2 q3 q4⟩, Or.inr ⟨(hF (Nat.pos_of_ne_zero c_351)).1, rfl, by rw [(hF (Nat.pos_of_ne_zero c_351)).2, hk3 _ (by decide) (by decide)]; exact k13⟩⟩)
  · 
    refine z_iconstN (pc := 354) C 1 dX7_takesE_354 ?_
    refine z_goto (pc := 355) C 359 dX7_takesE_355 (by decide) ?_
    exact z_zret (pc := 359) C ρ dX7_takesE_359 (by decide) (⟨_, rfl, rfl, ⟨fun j hj => by rw [hk3 _ (by omega) (by omega)]; exact hfr.1 j hj, fun c q1 q2 q3 q4 => by rw [hc3 c q1 q2]; exact hfr.2 c q1 q2 q3 q4⟩, Or.inl ⟨(hS c_351).1, rfl, by rw [← (hS c_351).2]; exact hP2.1, by rw [← (hS c_351).2]; have := hP2.2.2.2.2; show (σ.2.2.1 ++ (stl 0 W).1).length ≤ 96; omega, by rw [← (hS c_351).2]; exact hP2.2.2.1, by rw [← (hS c_351).2, hk3 _ (by decide) (by decide)]; exact hat⟩⟩)
set_option maxRecDepth 100000 in
set_option maxHeartbeats 4000000 in
theorem tE_R7 {E : Ex} {κ : Kx} {S : Sx} {im : Mem} {M T : Nat} {a : Nat → Int32} {key : Int32} (C : Cx E κ cX7_takesE 5 yX7_takesE.cls (some FieldType.boolean) 4 0 0 yX7_takesE.name) (hM : ML S M) (hT : T ≤ 96) (ht : im M 11 = nI T) (hA : a = im (M + 9)) (hkey : key = im M 17) {r : Bool × RS} (ρ : Rt E κ 0 0 (pI (fun v S' im' => S = S' ∧ gE M im a T r v im'))) : R7 a T (hdE E κ S im M T) (fkE a T r) := by
  intro σ W pr nt ts hp hK0 hcl hsg hFk
  unfold hdE
  intro im' y4 hpT hTk hP hlen hat hpr hnt hts hfr
  show V E κ 5 0 0 28 [some (.ref M), some (.int (nI pr)), some (.int (nI nt)), some (.int (nI 0)), y4] [] S im'
  have e9 : im' (M + 9) = a := by rw [hfr.2 _ (by omega) (by omega) (by omega) (by omega)]; exact hA.symm
  have h11 : im' M 11 = nI T := by rw [hfr.1 _ (by omega)]; exact ht
  have h17 : im' M 17 = key := by rw [hfr.1 _ (by omega)]; exact hkey.symm
  have hTk0 := hTk
  unfold Tk at hTk
  rw [e9] at hTk
  obtain ⟨k13, k14, k12, k15, kw⟩ := hTk
  have hKle := tK_le a T σ.1 σ.2.1
  have hW96 := hP.2.2.2.2
  have hsgv : (if im' M 14 = nI 3 then s_sign (im' M 15) else nI 0) = r_sg a T σ := by
    rw [r_sg]
    by_cases h : tK a T σ.1 σ.2.1 = 3
    · rw [if_pos h, if_pos (by rw [k14, h]), k15 (tK3 h)]
    · rw [if_neg h, if_neg (by rw [k14, nI_eq (by omega) (by omega)]; exact h)]; rfl
  refine z_iload_n (pc := 28) C dX7_takesE_28 rfl ?_
  refine z_if_neF (pc := 29) C 39 dX7_takesE_29 (by decide) (by decide) ?_
  refine z_aload_n (pc := 32) C dX7_takesE_32 rfl ?_
  refine gX7_215 (pc := 33) C dX7_takesE_33 (ml_K hM) ?_
  refine z_eqi (y := nI (tK a T σ.1 σ.2.1)) (k14) ?_
  refine z_if_eqF (pc := 36) C 345 dX7_takesE_36 (by decide) (nI_ne0 (by omega) (by omega)) ?_
  refine z_iload_n (pc := 39) C dX7_takesE_39 rfl ?_
  refine z_if_eqT (pc := 40) C 180 dX7_takesE_40 (by decide) (by decide) ?_
  refine z_aload_n (pc := 180) C dX7_takesE_180 rfl ?_
  refine gX7_215 (pc := 181) C dX7_takesE_181 (ml_K hM) ?_
  refine z_eqi (y := nI (tK a T σ.1 σ.2.1)) (k14) ?_
  refine z_iconstN (pc := 184) C 3 dX7_takesE_184 ?_
  have j_237 : V E κ 5 0 0 237 [some (.ref M), some (.int (nI pr)), some (.int (nI nt)), some (.int (nI 0)), y4] [] S im' := by
    refine z_aload_n (pc := 237) C dX7_takesE_237 rfl ?_
    refine kX7_257 (pc := 238) C dX7_takesE_238 (m7_signHere κ.2.1 E S im' M hM) (ml_K hM) (by decide) (Nat.le_of_ble_eq_true rfl) (Nat.le_refl _) (Nat.le_refl _) (fun v_238 S_238 im_238 h_238 => ?_)
    obtain ⟨rfl, rfl, rfl⟩ := h_238
    refine z_eqi (y := r_sg a T σ) hsgv ?_
    refine z_istore (pc := 241) C dX7_takesE_241 (by decide) rfl ?_
    refine z_iload (pc := 243) C dX7_takesE_243 rfl ?_
    refine z_if_eq (pc := 245) C 266 dX7_takesE_245 (by decide) (fun c_245 => ?_) (fun c_245 => ?_)
    · 
      refine z_iconstN (pc := 266) C 0 dX7_takesE_266 ?_
      exact z_zret (pc := 267) C ρ dX7_takesE_267 (by decide) (⟨_, rfl, rfl, hfr, Or.inr ⟨hFk.1, rfl, by rw [hFk.2]; exact k13⟩⟩)
    · 
      refine z_iload (pc := 248) C dX7_takesE_248 rfl ?_
      refine kX7_236 (pc := 250) C dX7_takesE_250 (m7_rank κ.2.1 E S im' (r_sg a T σ)) (by decide) (Nat.le_of_ble_eq_true rfl) (Nat.le_refl _) (Nat.le_refl _) (fun v_250 S_250 im_250 h_250 => ?_)
      obtain ⟨rfl, rfl, rfl⟩ := h_250
      refine z_iconstN (pc := 253) C 3 dX7_takesE_253 ?_
      refine z_icmp_neF (pc := 254) C 268 dX7_takesE_254 (by decide) (by rw [(hsg.resolve_left c_245).1]) ?_
      refine z_aload_n (pc := 257) C dX7_takesE_257 rfl ?_
      refine gX7_55 (pc := 258) C dX7_takesE_258 (ml_K hM) (ml_r25 hM) ?_
      refine z_iload_n (pc := 261) C dX7_takesE_261 rfl ?_
      refine z_zald (pc := 262) C dX7_takesE_262 (ml_a14 hM) (ml_n14 hM) (by omega) (by decide) ?_
      refine z_eqi (y := nI 1) (by rw [hts pr (Nat.le_refl _), (hsg.resolve_left c_245).2]; rfl) ?_
      refine z_if_eqF (pc := 263) C 268 dX7_takesE_263 (by decide) (by decide) ?_
      refine z_iconstN (pc := 266) C 0 dX7_takesE_266 ?_
      exact z_zret (pc := 267) C ρ dX7_takesE_267 (by decide) (⟨_, rfl, rfl, hfr, Or.inr ⟨hFk.1, rfl, by rw [hFk.2]; exact k13⟩⟩)
  refine z_icmp_neN (pc := 185) C 237 dX7_takesE_185 (by decide) (by omega) (by omega) (fun c_185 => ?_) (fun c_185 => ?_)
  · 
    exact j_237
  · 
    refine z_aload_n (pc := 188) C dX7_takesE_188 rfl ?_
    refine gX7_221 (pc := 189) C dX7_takesE_189 (ml_K hM) ?_
    refine z_eqi (y := tV a T σ.1) (k15 (tK3 c_185)) ?_
    refine z_bipushN (pc := 192) C 41 (by decide) dX7_takesE_192 ?_
    refine z_icmp_ne (pc := 194) C 237 dX7_takesE_194 (by decide) (fun c_194 => ?_) (fun c_194 => ?_)
    · 
      exact j_237
    · 
      refine z_iload_n (pc := 197) C dX7_takesE_197 rfl ?_
      refine z_if_leT (pc := 198) C 237 dX7_takesE_198 (by decide) (by rw [show pr = 0 from Nat.eq_zero_of_not_pos (fun h => hcl ⟨decide_eq_true ⟨c_185, c_194⟩, h⟩)]; decide) ?_
      exact j_237
set_option maxRecDepth 100000 in
set_option maxHeartbeats 4000000 in
theorem tE_R6 {E : Ex} {κ : Kx} {S : Sx} {im : Mem} {M T : Nat} {a : Nat → Int32} {key : Int32} (C : Cx E κ cX7_takesE 5 yX7_takesE.cls (some FieldType.boolean) 4 0 0 yX7_takesE.name) (hM : ML S M) (hT : T ≤ 96) (ht : im M 11 = nI T) (hA : a = im (M + 9)) (hkey : key = im M 17) : R6 a T (hdE E κ S im M T) := by
  intro σ W pr nt ts hp hcl hsg0 hts3 hH
  unfold hdE
  intro im' y4 hpT hTk hP hlen hat hpr hnt hts hfr
  show V E κ 5 0 0 28 [some (.ref M), some (.int (nI pr)), some (.int (nI nt)), some (.int (nI 0)), y4] [] S im'
  have e9 : im' (M + 9) = a := by rw [hfr.2 _ (by omega) (by omega) (by omega) (by omega)]; exact hA.symm
  have h11 : im' M 11 = nI T := by rw [hfr.1 _ (by omega)]; exact ht
  have h17 : im' M 17 = key := by rw [hfr.1 _ (by omega)]; exact hkey.symm
  have hTk0 := hTk
  unfold Tk at hTk
  rw [e9] at hTk
  obtain ⟨k13, k14, k12, k15, kw⟩ := hTk
  have hKle := tK_le a T σ.1 σ.2.1
  have hW96 := hP.2.2.2.2
  have hK3 : tK a T σ.1 σ.2.1 = 3 := r_sg_s hsg0
  have hsT : ¬ tS a T σ.1 = T := tK3 hK3
  have hgt := tE_gt hpT hsT
  have hge := tS_ge a T σ.1
  have hle := tE_le (a := a) hpT
  obtain ⟨o1, o2, o3, o4, o5⟩ := r_sg_op hsg0
  have hsl := stl_len (rk (r_sg a T σ)) W
  have hsgv : (if im' M 14 = nI 3 then s_sign (im' M 15) else nI 0) = r_sg a T σ := by
    rw [r_sg]
    by_cases h : tK a T σ.1 σ.2.1 = 3
    · rw [if_pos h, if_pos (by rw [k14, h]), k15 (tK3 h)]
    · rw [if_neg h, if_neg (by rw [k14, nI_eq (by omega) (by omega)]; exact h)]; rfl
  refine z_iload_n (pc := 28) C dX7_takesE_28 rfl ?_
  refine z_if_neF (pc := 29) C 39 dX7_takesE_29 (by decide) (by decide) ?_
  refine z_aload_n (pc := 32) C dX7_takesE_32 rfl ?_
  refine gX7_215 (pc := 33) C dX7_takesE_33 (ml_K hM) ?_
  refine z_eqi (y := nI 3) (by rw [k14, hK3]) ?_
  refine z_if_eqF (pc := 36) C 345 dX7_takesE_36 (by decide) (by decide) ?_
  refine z_iload_n (pc := 39) C dX7_takesE_39 rfl ?_
  refine z_if_eqT (pc := 40) C 180 dX7_takesE_40 (by decide) (by decide) ?_
  refine z_aload_n (pc := 180) C dX7_takesE_180 rfl ?_
  refine gX7_215 (pc := 181) C dX7_takesE_181 (ml_K hM) ?_
  refine z_eqi (y := nI 3) (by rw [k14, hK3]) ?_
  refine z_iconstN (pc := 184) C 3 dX7_takesE_184 ?_
  refine z_icmp_neF (pc := 185) C 237 dX7_takesE_185 (by decide) (by decide) ?_
  refine z_aload_n (pc := 188) C dX7_takesE_188 rfl ?_
  refine gX7_221 (pc := 189) C dX7_takesE_189 (ml_K hM) ?_
  refine z_eqi (y := tV a T σ.1) (k15 hsT) ?_
  refine z_bipushN (pc := 192) C 41 (by decide) dX7_takesE_192 ?_
  refine z_icmp_neT (pc := 194) C 237 dX7_takesE_194 (by decide) (fun h => o5 (decide_eq_true ⟨hK3, h⟩)) ?_
  refine z_aload_n (pc := 237) C dX7_takesE_237 rfl ?_
  refine kX7_257 (pc := 238) C dX7_takesE_238 (m7_signHere κ.2.1 E S im' M hM) (ml_K hM) (by decide) (Nat.le_of_ble_eq_true rfl) (Nat.le_refl _) (Nat.le_refl _) (fun v_238 S_238 im_238 h_238 => ?_)
  obtain ⟨rfl, rfl, rfl⟩ := h_238
  refine z_eqi (y := r_sg a T σ) hsgv ?_
  refine z_istore (pc := 241) C dX7_takesE_241 (by decide) rfl ?_
  refine z_iload (pc := 243) C dX7_takesE_243 rfl ?_
  refine z_if_eqF (pc := 245) C 266 dX7_takesE_245 (by decide) (hsg0) ?_
  refine z_iload (pc := 248) C dX7_takesE_248 rfl ?_
  refine kX7_236 (pc := 250) C dX7_takesE_250 (m7_rank κ.2.1 E S im' (r_sg a T σ)) (by decide) (Nat.le_of_ble_eq_true rfl) (Nat.le_refl _) (Nat.le_refl _) (fun v_250 S_250 im_250 h_250 => ?_)
  obtain ⟨rfl, rfl, rfl⟩ := h_250
  refine z_iconstN (pc := 253) C 3 dX7_takesE_253 ?_
  have j_268 : V E κ 5 0 0 268 [some (.ref M), some (.int (nI pr)), some (.int (nI nt)), some (.int (nI 0)), some (.int (r_sg a T σ))] [] S im' := by
    refine z_aload_n (pc := 268) C dX7_takesE_268 rfl ?_
    refine gX7_55 (pc := 269) C dX7_takesE_269 (ml_K hM) (ml_r25 hM) ?_
    refine z_iload_n (pc := 272) C dX7_takesE_272 rfl ?_
    refine z_iload (pc := 273) C dX7_takesE_273 rfl ?_
    refine kX7_236 (pc := 275) C dX7_takesE_275 (m7_rank κ.2.1 E S im' (r_sg a T σ)) (by decide) (Nat.le_of_ble_eq_true rfl) (Nat.le_refl _) (Nat.le_refl _) (fun v_275 S_275 im_275 h_275 => ?_)
    obtain ⟨rfl, rfl, rfl⟩ := h_275
    refine z_iconstN (pc := 278) C 3 dX7_takesE_278 ?_
    have j_305 : ∀ x305 : Int32, x305 = (if rk (r_sg a T σ) = 3 ∨ (3 < rk (r_sg a T σ) ∧ ts pr = true) then nI 1 else nI 0) → V E κ 5 0 0 305 [some (.ref M), some (.int (nI pr)), some (.int (nI nt)), some (.int (nI 0)), some (.int (r_sg a T σ))] [.int x305, .int (nI pr), .ref (M + 14)] S im' := by
      intro x305 ex305
      refine z_zast (pc := 305) C dX7_takesE_305 (ml_a14 hM) (ml_n14 hM) (by omega) (by decide) (by rw [ex305]; split <;> decide) ?_
      refine z_aload_n (pc := 306) C dX7_takesE_306 rfl ?_
      refine z_iload (pc := 307) C dX7_takesE_307 rfl ?_
      refine kX7_236 (pc := 309) C dX7_takesE_309 (m7_rank κ.2.1 E S _ (r_sg a T σ)) (by decide) (Nat.le_of_ble_eq_true rfl) (Nat.le_refl _) (Nat.le_refl _) (fun v_309 S_309 im_309 h_309 => ?_)
      obtain ⟨rfl, rfl, rfl⟩ := h_309
      refine kX7_248 (pc := 312) C dX7_takesE_312 (m7_settle κ.2.1 E S (up2 im' (M + 14) pr x305) M hM (rk (r_sg a T σ)) (by omega) σ.2.2.1 W (PSt_fr hP (by rw [up2_n _ _ _ (by omega)]) (by rw [up2_n _ _ _ (by omega)]) (by rw [up2_n _ _ _ (by omega)]) (by rw [up2_n _ _ _ (by omega)]))) (ml_K hM) (by decide) (Nat.le_of_ble_eq_true rfl) (Nat.le_refl _) (Nat.le_refl _) (fun S_312 im_312 h_312 => ?_)
      obtain ⟨rfl, hP2, hk2, hc2⟩ := h_312
      refine z_aload_n (pc := 315) C dX7_takesE_315 rfl ?_
      refine gX7_52 (pc := 316) C dX7_takesE_316 (ml_K hM) (ml_r23 hM) ?_
      refine z_aload_n (pc := 319) C dX7_takesE_319 rfl ?_
      refine gX7_233 (pc := 320) C dX7_takesE_320 (ml_K hM) ?_
      refine z_eqi (y := nI ((stl (rk (r_sg a T σ)) W).2.length)) (hP2.2.1) ?_
      refine z_iload (pc := 323) C dX7_takesE_323 rfl ?_
      refine z_iast (pc := 325) C dX7_takesE_325 (ml_a13 hM) (ml_n13 hM) (by omega) (by decide) ?_
      refine z_aload_n (pc := 326) C dX7_takesE_326 rfl ?_
      refine z_dup (pc := 327) C dX7_takesE_327 rfl ?_
      refine gX7_233 (pc := 328) C dX7_takesE_328 (ml_K hM) ?_
      refine z_eqi (y := nI ((stl (rk (r_sg a T σ)) W).2.length)) (by rw [up2_n _ _ _ (by omega)]; exact hP2.2.1) ?_
      refine z_iconstN (pc := 331) C 1 dX7_takesE_331 ?_
      refine z_iaddN (pc := 332) C dX7_takesE_332 ?_
      refine pX7_233 (pc := 333) C dX7_takesE_333 (ml_K hM) ?_
      refine z_iconstN (pc := 336) C 1 dX7_takesE_336 ?_
      refine z_istore_n (pc := 337) C dX7_takesE_337 (by decide) rfl ?_
      refine z_aload_n (pc := 338) C dX7_takesE_338 rfl ?_
      refine kX7_230 (pc := 339) C dX7_takesE_339 (m7_go κ.2.1 E S (up2 (up2 im_312 (M + 13) ((stl (rk (r_sg a T σ)) W).2.length) (r_sg a T σ)) M 24 (nI ((stl (rk (r_sg a T σ)) W).2.length + 1))) M hM T hT (by rw [up2_at, if_neg (by decide), up2_n _ _ _ (by omega), hk2 _ (by decide) (by decide), up2_n _ _ _ (by omega)]; exact h11) (tE a T σ.1) (tE_le hpT) (by rw [up2_at, if_neg (by decide), up2_n _ _ _ (by omega), hk2 _ (by decide) (by decide), up2_n _ _ _ (by omega)]; exact k12) (tWb a T σ.1) (by rw [up2_at, if_neg (by decide), up2_n _ _ _ (by omega), hk2 _ (by decide) (by decide), up2_n _ _ _ (by omega)]; exact kw hsT)) (ml_K hM) (by decide) (Nat.le_of_ble_eq_true rfl) (Nat.le_refl _) (Nat.le_refl _) (fun S_339 im_339 h_339 => ?_)
      obtain ⟨rfl, hgo⟩ := h_339
      have hTk2 := gGo_Tk hT (tE_le hpT) (by rw [up2_at, if_neg (by decide), up2_n _ _ _ (by omega), hk2 _ (by decide) (by decide), up2_n _ _ _ (by omega)]; exact kw hsT) hgo
      obtain ⟨-, -, -, -, -, -, hk3, hc3⟩ := hgo
      have hP4 : PSt M im_339 (σ.2.2.1 ++ (stl (rk (r_sg a T σ)) W).1) (r_sg a T σ :: (stl (rk (r_sg a T σ)) W).2) := ⟨by rw [hk3 _ (by decide) (by decide) (by decide) (by decide) (by decide), up2_at, if_neg (by decide), up2_n _ _ _ (by omega)]; exact hP2.1, by rw [hk3 _ (by decide) (by decide) (by decide) (by decide) (by decide), up2_at, if_pos rfl]; rfl, by rw [hc3 _ (by omega), up2_n _ _ _ (by omega), up2_n _ _ _ (by omega)]; exact hP2.2.2.1, by rw [hc3 _ (by omega), up2_n _ _ _ (by omega), up2_s]; exact stk_push hP2.2.2.2.1 _, by rw [List.length_append, List.length_cons]; omega⟩
      refine z_goto (pc := 342) C 28 dX7_takesE_342 (by decide) ?_
      refine hH im_339 _ (tE_le hpT) hTk2 hP4 ?_ (by rw [hk3 _ (by decide) (by decide) (by decide) (by decide) (by decide), up2_at, if_neg (by decide), up2_n _ _ _ (by omega), hk2 _ (by decide) (by decide), up2_n _ _ _ (by omega)]; exact hat) hpr hnt (fun i hi => ?_) ⟨fun j hj => by rw [hk3 _ (by omega) (by omega) (by omega) (by omega) (by omega), up2_at, if_neg (by omega), up2_n _ _ _ (by omega), hk2 _ (by omega) (by omega), up2_n _ _ _ (by omega)]; exact hfr.1 j hj, fun c q1 q2 q3 q4 => by rw [hc3 c q1, up2_n _ _ _ q1, up2_n _ _ _ q3, hc2 c q1 q2, up2_n _ _ _ q4]; exact hfr.2 c q1 q2 q3 q4⟩
      · show (σ.2.2.1 ++ (stl (rk (r_sg a T σ)) W).1).length + ((stl (rk (r_sg a T σ)) W).2.length + 1) ≤ tE a T σ.1
        rw [List.length_append]
        omega
      · rw [hc3 _ (by omega), up2_n _ _ _ (by omega), up2_n _ _ _ (by omega), hc2 _ (by omega) (by omega), up2_s]
        by_cases e : i = pr
        · rw [e, upd_s, tsu_eq, ex305]; exact bI_dec _
        · rw [upd_n _ _ e, tsu_ne _ _ e]; exact hts i hi
    refine z_icmp_eqN (pc := 279) C 300 dX7_takesE_279 (by decide) (rk_lt _) (by omega) (fun c_279 => ?_) (fun c_279 => ?_)
    · 
      refine z_iconstN (pc := 300) C 1 dX7_takesE_300 ?_
      refine z_goto (pc := 301) C 305 dX7_takesE_301 (by decide) ?_
      exact j_305 _ (by rw [if_pos (Or.inl c_279)])
    · 
      refine z_iload (pc := 282) C dX7_takesE_282 rfl ?_
      refine kX7_236 (pc := 284) C dX7_takesE_284 (m7_rank κ.2.1 E S im' (r_sg a T σ)) (by decide) (Nat.le_of_ble_eq_true rfl) (Nat.le_refl _) (Nat.le_refl _) (fun v_284 S_284 im_284 h_284 => ?_)
      obtain ⟨rfl, rfl, rfl⟩ := h_284
      refine z_iconstN (pc := 287) C 3 dX7_takesE_287 ?_
      refine z_icmp_leN (pc := 288) C 304 dX7_takesE_288 (by decide) (rk_lt _) (by omega) (fun c_288 => ?_) (fun c_288 => ?_)
      · 
        refine z_iconstN (pc := 304) C 0 dX7_takesE_304 ?_
        exact j_305 _ (by rw [if_neg (fun h => by rcases h with h | h; exact c_279 h; have := h.1; omega)])
      · 
        refine z_aload_n (pc := 291) C dX7_takesE_291 rfl ?_
        refine gX7_55 (pc := 292) C dX7_takesE_292 (ml_K hM) (ml_r25 hM) ?_
        refine z_iload_n (pc := 295) C dX7_takesE_295 rfl ?_
        refine z_zald (pc := 296) C dX7_takesE_296 (ml_a14 hM) (ml_n14 hM) (by omega) (by decide) ?_
        refine z_eqi (y := bI (ts pr)) (hts pr (Nat.le_refl _)) ?_
        refine z_if_eq (pc := 297) C 304 dX7_takesE_297 (by decide) (fun c_297 => ?_) (fun c_297 => ?_)
        · 
          refine z_iconstN (pc := 304) C 0 dX7_takesE_304 ?_
          exact j_305 _ (by rw [if_neg (fun h => by rcases h with h | h; exact c_279 h; exact bI_0 c_297 h.2)])
        · 
          refine z_iconstN (pc := 300) C 1 dX7_takesE_300 ?_
          refine z_goto (pc := 301) C 305 dX7_takesE_301 (by decide) ?_
          exact j_305 _ (by rw [if_pos (Or.inr ⟨by omega, bI_n c_297⟩)])
  refine z_icmp_neN (pc := 254) C 268 dX7_takesE_254 (by decide) (rk_lt _) (by omega) (fun c_254 => ?_) (fun c_254 => ?_)
  · 
    exact j_268
  · 
    refine z_aload_n (pc := 257) C dX7_takesE_257 rfl ?_
    refine gX7_55 (pc := 258) C dX7_takesE_258 (ml_K hM) (ml_r25 hM) ?_
    refine z_iload_n (pc := 261) C dX7_takesE_261 rfl ?_
    refine z_zald (pc := 262) C dX7_takesE_262 (ml_a14 hM) (ml_n14 hM) (by omega) (by decide) ?_
    refine z_eqi (y := nI 0) (by rw [hts pr (Nat.le_refl _), bF (fun h => hts3 ⟨c_254, h⟩)]; rfl) ?_
    refine z_if_eqT (pc := 263) C 268 dX7_takesE_263 (by decide) (by decide) ?_
    exact j_268
set_option maxRecDepth 100000 in
set_option maxHeartbeats 4000000 in
theorem tE_R5 {E : Ex} {κ : Kx} {S : Sx} {im : Mem} {M T : Nat} {a : Nat → Int32} {key : Int32} (C : Cx E κ cX7_takesE 5 yX7_takesE.cls (some FieldType.boolean) 4 0 0 yX7_takesE.name) (hM : ML S M) (hT : T ≤ 96) (ht : im M 11 = nI T) (hA : a = im (M + 9)) (hkey : key = im M 17) : R5 a T (hdE E κ S im M T) := by
  intro σ W W1 pr nt ts hp hch hpr0 hW1 hH
  unfold hdE
  intro im' y4 hpT hTk hP hlen hat hpr hnt hts hfr
  show V E κ 5 0 0 28 [some (.ref M), some (.int (nI pr)), some (.int (nI nt)), some (.int (nI 0)), y4] [] S im'
  have e9 : im' (M + 9) = a := by rw [hfr.2 _ (by omega) (by omega) (by omega) (by omega)]; exact hA.symm
  have h11 : im' M 11 = nI T := by rw [hfr.1 _ (by omega)]; exact ht
  have h17 : im' M 17 = key := by rw [hfr.1 _ (by omega)]; exact hkey.symm
  have hTk0 := hTk
  unfold Tk at hTk
  rw [e9] at hTk
  obtain ⟨k13, k14, k12, k15, kw⟩ := hTk
  have hKle := tK_le a T σ.1 σ.2.1
  have hW96 := hP.2.2.2.2
  have hch2 := decide_eq_true_iff.mp hch
  have hK3 : tK a T σ.1 σ.2.1 = 3 := hch2.1
  have hsT : ¬ tS a T σ.1 = T := tK3 hK3
  have hV : im' M 15 = nI 41 := by rw [k15 hsT]; exact hch2.2
  have hgt := tE_gt hpT hsT
  have hge := tS_ge a T σ.1
  have hle := tE_le (a := a) hpT
  refine z_iload_n (pc := 28) C dX7_takesE_28 rfl ?_
  refine z_if_neF (pc := 29) C 39 dX7_takesE_29 (by decide) (by decide) ?_
  refine z_aload_n (pc := 32) C dX7_takesE_32 rfl ?_
  refine gX7_215 (pc := 33) C dX7_takesE_33 (ml_K hM) ?_
  refine z_eqi (y := nI 3) (by rw [k14, hK3]) ?_
  refine z_if_eqF (pc := 36) C 345 dX7_takesE_36 (by decide) (by decide) ?_
  refine z_iload_n (pc := 39) C dX7_takesE_39 rfl ?_
  refine z_if_eqT (pc := 40) C 180 dX7_takesE_40 (by decide) (by decide) ?_
  refine z_aload_n (pc := 180) C dX7_takesE_180 rfl ?_
  refine gX7_215 (pc := 181) C dX7_takesE_181 (ml_K hM) ?_
  refine z_eqi (y := nI 3) (by rw [k14, hK3]) ?_
  refine z_iconstN (pc := 184) C 3 dX7_takesE_184 ?_
  refine z_icmp_neF (pc := 185) C 237 dX7_takesE_185 (by decide) (by decide) ?_
  refine z_aload_n (pc := 188) C dX7_takesE_188 rfl ?_
  refine gX7_221 (pc := 189) C dX7_takesE_189 (ml_K hM) ?_
  refine z_eqi (y := nI 41) (hV) ?_
  refine z_bipushN (pc := 192) C 41 (by decide) dX7_takesE_192 ?_
  refine z_icmp_neF (pc := 194) C 237 dX7_takesE_194 (by decide) (by decide) ?_
  refine z_iload_n (pc := 197) C dX7_takesE_197 rfl ?_
  refine z_if_leF (pc := 198) C 237 dX7_takesE_198 (by decide) (nI_nle hpr0 (by omega)) ?_
  refine z_aload_n (pc := 201) C dX7_takesE_201 rfl ?_
  refine z_iconstN (pc := 202) C 0 dX7_takesE_202 ?_
  refine kX7_248 (pc := 203) C dX7_takesE_203 (m7_settle κ.2.1 E S im' M hM 0 (by decide) σ.2.2.1 W hP) (ml_K hM) (by decide) (Nat.le_of_ble_eq_true rfl) (Nat.le_refl _) (Nat.le_refl _) (fun S_203 im_203 h_203 => ?_)
  obtain ⟨rfl, hP2, hk2, hc2⟩ := h_203
  rw [hW1] at hP2
  have hl2 := hP2.2.2.2.2
  rw [List.length_cons] at hl2
  refine z_aload_n (pc := 206) C dX7_takesE_206 rfl ?_
  refine z_dup (pc := 207) C dX7_takesE_207 rfl ?_
  refine gX7_233 (pc := 208) C dX7_takesE_208 (ml_K hM) ?_
  refine z_eqi (y := nI (W1.length + 1)) (hP2.2.1) ?_
  refine z_iconstN (pc := 211) C 1 dX7_takesE_211 ?_
  refine z_isubN (pc := 212) C dX7_takesE_212 (by omega) ?_
  refine pX7_233 (pc := 213) C dX7_takesE_213 (ml_K hM) ?_
  refine z_iinc (pc := 216) C dX7_takesE_216 rfl (pr_dec hpr0) (by decide) rfl ?_
  refine z_aload_n (pc := 219) C dX7_takesE_219 rfl ?_
  refine z_bipushN (pc := 220) C 6 (by decide) dX7_takesE_220 ?_
  refine kX7_248 (pc := 222) C dX7_takesE_222 (m7_settle κ.2.1 E S _ M hM 6 (by decide) (σ.2.2.1 ++ (stl 0 W).1) W1 ⟨by rw [up2_at, if_neg (by decide)]; exact hP2.1, by rw [up2_at, if_pos rfl]; rfl, by rw [up2_n _ _ _ (by omega)]; exact hP2.2.2.1, by rw [up2_n _ _ _ (by omega)]; exact stk_tl hP2.2.2.2.1, by omega⟩) (ml_K hM) (by decide) (Nat.le_of_ble_eq_true rfl) (Nat.le_refl _) (Nat.le_refl _) (fun S_222 im_222 h_222 => ?_)
  obtain ⟨rfl, hP3, hk4, hc4⟩ := h_222
  refine z_aload_n (pc := 225) C dX7_takesE_225 rfl ?_
  refine kX7_254 (pc := 226) C dX7_takesE_226 (m7_notsOpen κ.2.1 E S im_222 M hM _ _ hP3) (ml_K hM) (by decide) (Nat.le_of_ble_eq_true rfl) (Nat.le_refl _) (Nat.le_refl _) (fun v_226 S_226 im_226 h_226 => ?_)
  obtain ⟨rfl, rfl, rfl⟩ := h_226
  refine z_istore_n (pc := 229) C dX7_takesE_229 (by decide) rfl ?_
  refine z_aload_n (pc := 230) C dX7_takesE_230 rfl ?_
  refine kX7_230 (pc := 231) C dX7_takesE_231 (m7_go κ.2.1 E S (im_222) M hM T hT (by rw [hk4 _ (by decide) (by decide), up2_at, if_neg (by decide), hk2 _ (by decide) (by decide)]; exact h11) (tE a T σ.1) (tE_le hpT) (by rw [hk4 _ (by decide) (by decide), up2_at, if_neg (by decide), hk2 _ (by decide) (by decide)]; exact k12) (tWb a T σ.1) (by rw [hk4 _ (by decide) (by decide), up2_at, if_neg (by decide), hk2 _ (by decide) (by decide)]; exact kw hsT)) (ml_K hM) (by decide) (Nat.le_of_ble_eq_true rfl) (Nat.le_refl _) (Nat.le_refl _) (fun S_231 im_231 h_231 => ?_)
  obtain ⟨rfl, hgo⟩ := h_231
  have hTk2 := gGo_Tk hT (tE_le hpT) (by rw [hk4 _ (by decide) (by decide), up2_at, if_neg (by decide), hk2 _ (by decide) (by decide)]; exact kw hsT) hgo
  obtain ⟨-, -, -, -, -, -, hk3, hc3⟩ := hgo
  have hP4 : PSt M im_231 (σ.2.2.1 ++ (stl 0 W).1 ++ (stl 6 W1).1) (stl 6 W1).2 := PSt_fr hP3 (hk3 _ (by decide) (by decide) (by decide) (by decide) (by decide)) (hk3 _ (by decide) (by decide) (by decide) (by decide) (by decide)) (hc3 _ (by omega)) (hc3 _ (by omega))
  refine z_goto (pc := 234) C 28 dX7_takesE_234 (by decide) ?_
  refine hH im_231 _ (tE_le hpT) hTk2 (by rw [show (r_ap (r_nx a T σ) ((stl 0 W).1 ++ (stl 6 W1).1)).2.2.1 = σ.2.2.1 ++ (stl 0 W).1 ++ (stl 6 W1).1 from (List.append_assoc _ _ _).symm]; exact hP4) ?_ (by rw [hk3 _ (by decide) (by decide) (by decide) (by decide) (by decide), hk4 _ (by decide) (by decide), up2_at, if_neg (by decide), hk2 _ (by decide) (by decide)]; exact hat) (by omega) (by have := nb_le (stl 6 W1).2; have := hP4.2.2.2.2; omega) (fun i hi => ?_) ⟨fun j hj => by rw [hk3 _ (by omega) (by omega) (by omega) (by omega) (by omega), hk4 _ (by omega) (by omega), up2_at, if_neg (by omega), hk2 _ (by omega) (by omega)]; exact hfr.1 j hj, fun c q1 q2 q3 q4 => by rw [hc3 c q1, hc4 c q1 q2, up2_n _ _ _ q1, hc2 c q1 q2]; exact hfr.2 c q1 q2 q3 q4⟩
  · show (σ.2.2.1 ++ ((stl 0 W).1 ++ (stl 6 W1).1)).length + (stl 6 W1).2.length ≤ tE a T σ.1
    have s1 := stl_len 0 W
    have s2 := stl_len 6 W1
    rw [hW1, List.length_cons] at s1
    rw [List.length_append, List.length_append]
    omega
  · rw [hc3 _ (by omega), hc4 _ (by omega) (by omega), up2_n _ _ _ (by omega), hc2 _ (by omega) (by omega)]
    exact hts i (by omega)
set_option maxRecDepth 100000 in
set_option maxHeartbeats 4000000 in
theorem m7_takesE (l : Launch) (E : Ex) (S : Sx) (im : Mem) (M : Nat) (hM : ML S M) (T : Nat) (hT : T ≤ 96) (ht : im M 11 = nI T) (p : Nat) (hp0 : p ≤ T) (w : Bool) (hk0 : Tk M im T p w)  : Mt l E yX7_takesE cX7_takesE 5 (some .boolean) 4 0 0 [.ref M] S im (pI (fun v S' im' => S = S' ∧ gE M im (im (M + 9)) T (rd (im (M + 9)) T (im M 17) 70 0 0 0 (p, w, [], 0)) v im')) := by
  refine Mt.of (by decide +kernel) rfl rfl (Nat.le_of_ble_eq_true rfl) ?_
  intro κ hκ C ρ
  subst hκ
  show V E κ 5 0 0 0 [some (.ref M), none, none, none, none] [] S im
  refine z_iconstN (pc := 0) C 0 dX7_takesE_0 ?_
  refine z_istore_n (pc := 1) C dX7_takesE_1 (by decide) rfl ?_
  refine z_iconstN (pc := 2) C 0 dX7_takesE_2 ?_
  refine z_istore_n (pc := 3) C dX7_takesE_3 (by decide) rfl ?_
  refine z_iconstN (pc := 4) C 1 dX7_takesE_4 ?_
  refine z_istore_n (pc := 5) C dX7_takesE_5 (by decide) rfl ?_
  refine z_aload_n (pc := 6) C dX7_takesE_6 rfl ?_
  refine z_iconstN (pc := 7) C 0 dX7_takesE_7 ?_
  refine pX7_239 (pc := 8) C dX7_takesE_8 (ml_K hM) ?_
  refine z_aload_n (pc := 11) C dX7_takesE_11 rfl ?_
  refine z_iconstN (pc := 12) C 0 dX7_takesE_12 ?_
  refine pX7_245 (pc := 13) C dX7_takesE_13 (ml_K hM) ?_
  refine z_aload_n (pc := 16) C dX7_takesE_16 rfl ?_
  refine z_iconstN (pc := 17) C 0 dX7_takesE_17 ?_
  refine pX7_233 (pc := 18) C dX7_takesE_18 (ml_K hM) ?_
  refine z_aload_n (pc := 21) C dX7_takesE_21 rfl ?_
  refine gX7_55 (pc := 22) C dX7_takesE_22 (ml_K hM) (ml_r25 hM) ?_
  refine z_iconstN (pc := 25) C 0 dX7_takesE_25 ?_
  refine z_iconstN (pc := 26) C 0 dX7_takesE_26 ?_
  refine z_zast (pc := 27) C dX7_takesE_27 (ml_a14 hM) (ml_n14 hM) (by omega) (by decide) (by decide) ?_
  have hE := sim_all (Hd := hdE E κ S im M T) (Fk := fkE (im (M + 9)) T (rd (im (M + 9)) T (im M 17) 70 0 0 0 (p, w, [], 0))) (Sk := skE (im (M + 9)) T (rd (im (M + 9)) T (im M 17) 70 0 0 0 (p, w, [], 0))) hT (tE_R1 C hM hT ht rfl rfl) (tE_R2 C hM hT ht rfl rfl) (tE_R3 C hM hT ht rfl rfl) (tE_R4 C hM hT ht rfl rfl ρ) (tE_R5 C hM hT ht rfl rfl) (tE_R6 C hM hT ht rfl rfl) (tE_R7 C hM hT ht rfl rfl ρ) (tE_R8 C hM hT ht rfl rfl ρ) (p, w, [], 0) hp0 (fun _ => false) rfl (fun h1 h2 => ⟨⟨h1, h2⟩, rfl⟩) (fun h => ⟨h, rfl⟩)
  exact hE _ _ hp0 (Tk_fr hk0 (by rw [up2_n _ _ _ (by omega), up2_n _ _ _ (by omega), up2_n _ _ _ (by omega), up2_n _ _ _ (by omega)]) (fun j q1 q2 => by rw [up2_n _ _ _ (by omega), up2_at, if_neg (by omega), up2_at, if_neg (by omega), up2_at, if_neg (by omega)])) ⟨by rw [up2_n _ _ _ (by omega), up2_at, if_neg (by decide), up2_at, if_neg (by decide), up2_at, if_pos rfl]; rfl, by rw [up2_n _ _ _ (by omega), up2_at, if_pos rfl]; rfl, fun i hi => absurd hi (Nat.not_lt_zero _), fun i hi => absurd hi (Nat.not_lt_zero _), Nat.zero_le _⟩ (Nat.zero_le _) (by rw [up2_n _ _ _ (by omega), up2_at, if_neg (by decide), up2_at, if_pos rfl]) (by omega) (by omega) (fun i hi => by rw [up2_s, show i = 0 by omega, upd_s]; rfl) ⟨fun j hj => by rw [up2_n _ _ _ (by omega), up2_at, if_neg (by omega), up2_at, if_neg (by omega), up2_at, if_neg (by omega)], fun c q1 q2 q3 q4 => by rw [up2_n _ _ _ q4, up2_n _ _ _ q1, up2_n _ _ _ q1, up2_n _ _ _ q1]⟩
