/-! the law: calls that touch the street that is, and no more -/
theorem comes_2 {f : Nat → Int32} {n : Nat} {k p o u : Int32} : s_comes f n k p o u 2 = f 2 := by
  unfold s_comes
  rw [upd_n _ _ (by omega), upd_n _ _ (by omega), upd_n _ _ (by omega), upd_n _ _ (by omega), upd_n _ _ (by omega), upd_n _ _ (by omega), upd_n _ _ (by omega), upd_n _ _ (by omega)]
theorem f2_lamp {f : Nat → Int32} {n : Nat} {k p o u : Int32} : f_lamp f n k p o u 2 = f 2 := by
  unfold f_lamp
  repeat' (first | rfl | exact comes_2 | split)
theorem f2_turns {f : Nat → Int32} {n : Nat} {x k : Int32} : f_turns f n x k 2 = f 2 := by
  unfold f_turns
  repeat' (first | rfl | exact upd_n _ _ (by omega) | split)
theorem f2_set {f : Nat → Int32} {n : Nat} {x w v0 : Int32} : f_set f n x w v0 2 = f 2 := by
  unfold f_set
  repeat' (first | rfl | exact upd_n _ _ (by omega) | split)
theorem f2_rule {f : Nat → Int32} {w x : Int32} : f_rule f w x 2 = f 2 := by
  unfold f_rule
  repeat' (first | rfl | exact upd_n _ _ (by omega) | split)
theorem deal_2 {f : Nat → Int32} {n : Nat} : ∀ k, s_deal f n k 2 = f 2 := by
  intro k
  induction k with
  | zero => rfl
  | succ k ih => rw [s_deal]; unfold s_deal1; rw [comes_2, upd_n _ _ (by omega)]; exact ih
theorem f2_deal {f : Nat → Int32} {n : Nat} {x : Int32} : f_deal f n x 2 = f 2 := by
  unfold f_deal
  split
  · exact deal_2 _
  · rfl
theorem pr_2 {f c : Nat → Int32} : ∀ k, (s_pr f c k).1 2 = f 2 := by
  intro k
  induction k with
  | zero => rfl
  | succ k ih => rw [s_pr]; dsimp only; rw [upd_n _ _ (by omega)]; exact ih
theorem f2_pour {f c : Nat → Int32} {n : Nat} {x so sz : Int32} : f_pourS f c n x so sz 2 = f 2 := by
  unfold f_pourS
  repeat' (first | rfl | exact pr_2 _ | split)
theorem lights_2 {f : Nat → Int32} {n7 l0 : Nat} {mi : Int32} : s_lights f n7 l0 mi 2 = f 2 := by
  unfold s_lights
  rw [upd_n _ _ (by omega), upd_n _ _ (by omega), upd_n _ _ (by omega), upd_n _ _ (by omega)]
theorem run_2 {f : Nat → Int32} {p : Nat → Nat} {n7 : Nat} {idle : Int32} : ∀ k, (s_run f p n7 idle k).1 2 = f 2 := by
  intro k
  induction k with
  | zero => rfl
  | succ k ih =>
    rw [s_run]
    split
    · exact ih
    · refine lights_2.trans ?_; rw [upd_n _ _ (by omega)]; exact ih
theorem pour_2 {f : Nat → Int32} {idle : Int32} : ∀ k, s_pour f idle k 2 = f 2 := by
  intro k
  induction k with
  | zero => rfl
  | succ k ih => rw [s_pour, upd_n _ _ (by omega)]; exact ih
theorem night_2 {f : Nat → Int32} {n n7 : Nat} {idle : Int32} : s_night f n n7 idle 2 = f 2 + nI 1 := by
  unfold s_night
  have e : s_pour (s_run (s_dusk f) (ordA (s_dusk f) n) n7 idle n).1 idle n 2 = f 2 := by
    rw [pour_2, run_2]
    unfold s_dusk
    rw [upd_n _ _ (by omega), upd_n _ _ (by omega)]
  exact (upd_s _ _ _).trans (by rw [e])
theorem nights_2 {f : Nat → Int32} {n n7 : Nat} {idle : Int32} : ∀ k, s_nights f n n7 idle k 2 = f 2 + nI k := by
  intro k
  induction k with
  | zero => exact (Int32.add_zero _).symm
  | succ k ih => rw [s_nights, night_2, ih, Int32.add_assoc, nI_add]
theorem f2_nights {f : Nat → Int32} {n n7 : Nat} {x : Int32} (h2 : inR 0 9999 (f 2)) : inR 0 9999 (f_nights f n n7 x 2) := by
  unfold f_nights
  split
  · next h =>
    obtain ⟨x0, -, hx, rfl⟩ := (rng (by decide) (by decide)).mp h
    obtain ⟨-, -, j, hj, hk⟩ := nights_mn h2 hx
    rw [nights_2, hj, nI_add]
    exact nI_R (by omega) (by omega)
  · exact h2
/-- the rest of the law behind a call -/
def Nx (E : Ex) (κ : Kx) (b B i c s : Nat) : Prop := ∀ S' im', INV S' im' B → V E κ 4 (c + 3) (s + 200) 1452 [some (.ref b), some (.ref B), some (.ref (B + 81)), some (.int (nI i))] [] S' im'
theorem frP.rf0 {M : Nat} {im : Mem} : frP M im im := fun _ _ _ _ _ _ _ _ _ => rfl
section LW
variable {E : Ex} {κ : Kx} {ret : Option FieldType} {d Rc Rs : Nat} {nm : String} {b n i B c s : Nat} {xs : Nat → Int32} {S : Sx} {im : Mem}
set_option maxRecDepth 100000 in
set_option maxHeartbeats 4000000 in
theorem lw_lamp (C : Cx E κ cL_law 4 RL ret d Rc Rs nm) (hX : va_X b n xs κ.2.2.2.2.1 E.2.2.1) (hb : b < E.2.1) (hn : n < 2 ^ 31) (hi : i + 5 < n) (hd : 150 ≤ d) (hcl : c + 3 ≤ Rc) (hsl : s + 200 ≤ Rs) (hI : INV S im B) (nx : Nx E κ b B i c s) : V E κ 4 c s 216 [some (.ref b), some (.ref B), some (.ref (B + 81)), some (.int (nI i))] [] S im := by
  have hI0 := hI
  obtain ⟨⟨hC, hM, -⟩, ⟨⟨m, n7, hst⟩, h02⟩, -, ⟨hid, -⟩, h6, h7, -, h9⟩ := hI0
  have hok := ST_MOk hst
  refine z_aload_n (pc := 216) C dL_law_216 rfl ?_
  refine z_aload_n (pc := 217) C dL_law_217 rfl ?_
  refine z_iload_n (pc := 218) C dL_law_218 rfl ?_
  refine z_iconstN (pc := 219) C 1 dL_law_219 ?_
  refine z_iaddN (pc := 220) C dL_law_220 ?_
  refine z_scx (pc := 221) C hX hb dL_law_221 (by omega) hn ?_
  refine z_aload_n (pc := 222) C dL_law_222 rfl ?_
  refine z_iload_n (pc := 223) C dL_law_223 rfl ?_
  refine z_iconstN (pc := 224) C 2 dL_law_224 ?_
  refine z_iaddN (pc := 225) C dL_law_225 ?_
  refine z_scx (pc := 226) C hX hb dL_law_226 (by omega) hn ?_
  refine z_aload_n (pc := 227) C dL_law_227 rfl ?_
  refine z_iload_n (pc := 228) C dL_law_228 rfl ?_
  refine z_iconstN (pc := 229) C 3 dL_law_229 ?_
  refine z_iaddN (pc := 230) C dL_law_230 ?_
  refine z_scx (pc := 231) C hX hb dL_law_231 (by omega) hn ?_
  refine z_aload_n (pc := 232) C dL_law_232 rfl ?_
  refine z_iload_n (pc := 233) C dL_law_233 rfl ?_
  refine z_iconstN (pc := 234) C 4 dL_law_234 ?_
  refine z_iaddN (pc := 235) C dL_law_235 ?_
  refine z_scx (pc := 236) C hX hb dL_law_236 (by omega) hn ?_
  refine kL_13 (pc := 237) C dL_law_237 (c6_lamp κ.2.1 E S im B hC (B + 107) (Nat.le_refl _) (im (B + 81 + 1)) m n7 hst (xs (i + 1)) (xs (i + 2)) (xs (i + 3)) (xs (i + 4))) (cl_K hC) (by omega) (Nat.le_of_ble_eq_true rfl) (by omega) (by omega) (fun v1 S1 im1 h1 => ?_)
  obtain ⟨rfl, sx, ⟨m', st1⟩, fr⟩ := h1
  obtain ⟨hM1, e1⟩ := INV_r1 hI sx fr
  have e10 := e1 (B + 81 + 1) (by omega) (by omega)
  refine z_aload_n (pc := 240) C dL_law_240 rfl ?_
  refine z_aload_n (pc := 241) C dL_law_241 rfl ?_
  refine z_iload_n (pc := 242) C dL_law_242 rfl ?_
  refine z_iconstN (pc := 243) C 1 dL_law_243 ?_
  refine z_iaddN (pc := 244) C dL_law_244 ?_
  refine z_scx (pc := 245) C hX hb dL_law_245 (by omega) hn ?_
  refine z_aload_n (pc := 246) C dL_law_246 rfl ?_
  refine z_iload_n (pc := 247) C dL_law_247 rfl ?_
  refine z_iconstN (pc := 248) C 2 dL_law_248 ?_
  refine z_iaddN (pc := 249) C dL_law_249 ?_
  refine z_scx (pc := 250) C hX hb dL_law_250 (by omega) hn ?_
  refine z_aload_n (pc := 251) C dL_law_251 rfl ?_
  refine z_iload_n (pc := 252) C dL_law_252 rfl ?_
  refine z_iconstN (pc := 253) C 3 dL_law_253 ?_
  refine z_iaddN (pc := 254) C dL_law_254 ?_
  refine z_scx (pc := 255) C hX hb dL_law_255 (by omega) hn ?_
  refine z_aload_n (pc := 256) C dL_law_256 rfl ?_
  refine z_iload_n (pc := 257) C dL_law_257 rfl ?_
  refine z_iconstN (pc := 258) C 4 dL_law_258 ?_
  refine z_iaddN (pc := 259) C dL_law_259 ?_
  refine z_scx (pc := 260) C hX hb dL_law_260 (by omega) hn ?_
  refine kL_17 (pc := 261) C dL_law_261 (m7_lamp κ.2.1 E S1 im1 (B + 81) hM1 m n7 (im (B + 81 + 1)) e10 hok (xs (i + 1)) (xs (i + 2)) (xs (i + 3)) (xs (i + 4))) (ml_K hM1) (by omega) (Nat.le_of_ble_eq_true rfl) (by omega) (by omega) (fun v2 S2 im2 h2 => ?_)
  obtain ⟨rfl, rfl, hg, fp⟩ := h2
  refine z_icmp_eqT (pc := 264) C 1452 dL_law_264 (by decide) rfl ?_
  exact z_widen (by omega) (by omega) (nx _ _ (INV_F1 hI sx st1 fr hg fp (by rw [f2_lamp]; exact h02)))
set_option maxRecDepth 100000 in
set_option maxHeartbeats 4000000 in
theorem lw_told (C : Cx E κ cL_law 4 RL ret d Rc Rs nm) (hX : va_X b n xs κ.2.2.2.2.1 E.2.2.1) (hb : b < E.2.1) (hn : n < 2 ^ 31) (hi : i + 5 < n) (hd : 150 ≤ d) (hcl : c + 3 ≤ Rc) (hsl : s + 200 ≤ Rs) (hI : INV S im B) (nx : Nx E κ b B i c s) : V E κ 4 c s 269 [some (.ref b), some (.ref B), some (.ref (B + 81)), some (.int (nI i))] [] S im := by
  have hI0 := hI
  obtain ⟨⟨hC, hM, -⟩, ⟨⟨m, n7, hst⟩, h02⟩, -, ⟨hid, -⟩, h6, h7, -, h9⟩ := hI0
  have hok := ST_MOk hst
  refine z_aload_n (pc := 269) C dL_law_269 rfl ?_
  refine z_aload_n (pc := 270) C dL_law_270 rfl ?_
  refine z_iload_n (pc := 271) C dL_law_271 rfl ?_
  refine z_iconstN (pc := 272) C 1 dL_law_272 ?_
  refine z_iaddN (pc := 273) C dL_law_273 ?_
  refine z_scx (pc := 274) C hX hb dL_law_274 (by omega) hn ?_
  refine z_aload_n (pc := 275) C dL_law_275 rfl ?_
  refine z_iload_n (pc := 276) C dL_law_276 rfl ?_
  refine z_iconstN (pc := 277) C 2 dL_law_277 ?_
  refine z_iaddN (pc := 278) C dL_law_278 ?_
  refine z_scx (pc := 279) C hX hb dL_law_279 (by omega) hn ?_
  refine kL_18 (pc := 280) C dL_law_280 (c6_told κ.2.1 E S im B hC (B + 107) (Nat.le_refl _) (im (B + 81 + 1)) m n7 hst (xs (i + 1)) (xs (i + 2))) (cl_K hC) (by omega) (Nat.le_of_ble_eq_true rfl) (by omega) (by omega) (fun v1 S1 im1 h1 => ?_)
  obtain ⟨rfl, sx, ⟨m', st1⟩, fr⟩ := h1
  obtain ⟨hM1, e1⟩ := INV_r1 hI sx fr
  have e10 := e1 (B + 81 + 1) (by omega) (by omega)
  refine z_aload_n (pc := 283) C dL_law_283 rfl ?_
  refine z_aload_n (pc := 284) C dL_law_284 rfl ?_
  refine z_iload_n (pc := 285) C dL_law_285 rfl ?_
  refine z_iconstN (pc := 286) C 1 dL_law_286 ?_
  refine z_iaddN (pc := 287) C dL_law_287 ?_
  refine z_scx (pc := 288) C hX hb dL_law_288 (by omega) hn ?_
  refine z_aload_n (pc := 289) C dL_law_289 rfl ?_
  refine z_iload_n (pc := 290) C dL_law_290 rfl ?_
  refine z_iconstN (pc := 291) C 2 dL_law_291 ?_
  refine z_iaddN (pc := 292) C dL_law_292 ?_
  refine z_scx (pc := 293) C hX hb dL_law_293 (by omega) hn ?_
  refine kL_22 (pc := 294) C dL_law_294 (m7_told κ.2.1 E S1 im1 (B + 81) hM1 m n7 (im (B + 81 + 1)) e10 hok (xs (i + 1)) (xs (i + 2))) (ml_K hM1) (by omega) (Nat.le_of_ble_eq_true rfl) (by omega) (by omega) (fun v2 S2 im2 h2 => ?_)
  obtain ⟨rfl, rfl, hg, fp⟩ := h2
  refine z_icmp_eqT (pc := 297) C 1452 dL_law_297 (by decide) rfl ?_
  exact z_widen (by omega) (by omega) (nx _ _ (INV_F1 hI sx st1 fr hg fp (h02)))
set_option maxRecDepth 100000 in
set_option maxHeartbeats 4000000 in
theorem lw_drinks (C : Cx E κ cL_law 4 RL ret d Rc Rs nm) (hX : va_X b n xs κ.2.2.2.2.1 E.2.2.1) (hb : b < E.2.1) (hn : n < 2 ^ 31) (hi : i + 5 < n) (hd : 150 ≤ d) (hcl : c + 3 ≤ Rc) (hsl : s + 200 ≤ Rs) (hI : INV S im B) (nx : Nx E κ b B i c s) : V E κ 4 c s 302 [some (.ref b), some (.ref B), some (.ref (B + 81)), some (.int (nI i))] [] S im := by
  have hI0 := hI
  obtain ⟨⟨hC, hM, -⟩, ⟨⟨m, n7, hst⟩, h02⟩, -, ⟨hid, -⟩, h6, h7, -, h9⟩ := hI0
  have hok := ST_MOk hst
  refine z_aload_n (pc := 302) C dL_law_302 rfl ?_
  refine z_aload_n (pc := 303) C dL_law_303 rfl ?_
  refine z_iload_n (pc := 304) C dL_law_304 rfl ?_
  refine z_iconstN (pc := 305) C 1 dL_law_305 ?_
  refine z_iaddN (pc := 306) C dL_law_306 ?_
  refine z_scx (pc := 307) C hX hb dL_law_307 (by omega) hn ?_
  refine z_aload_n (pc := 308) C dL_law_308 rfl ?_
  refine z_iload_n (pc := 309) C dL_law_309 rfl ?_
  refine z_iconstN (pc := 310) C 2 dL_law_310 ?_
  refine z_iaddN (pc := 311) C dL_law_311 ?_
  refine z_scx (pc := 312) C hX hb dL_law_312 (by omega) hn ?_
  refine kL_23 (pc := 313) C dL_law_313 (c6_drinks κ.2.1 E S im B hC (B + 107) (Nat.le_refl _) (im (B + 81 + 1)) m n7 hst (xs (i + 1)) (xs (i + 2))) (cl_K hC) (by omega) (Nat.le_of_ble_eq_true rfl) (by omega) (by omega) (fun v1 S1 im1 h1 => ?_)
  obtain ⟨rfl, sx, ⟨m', st1⟩, fr⟩ := h1
  obtain ⟨hM1, e1⟩ := INV_r1 hI sx fr
  have e10 := e1 (B + 81 + 1) (by omega) (by omega)
  refine z_aload_n (pc := 316) C dL_law_316 rfl ?_
  refine z_aload_n (pc := 317) C dL_law_317 rfl ?_
  refine z_iload_n (pc := 318) C dL_law_318 rfl ?_
  refine z_iconstN (pc := 319) C 1 dL_law_319 ?_
  refine z_iaddN (pc := 320) C dL_law_320 ?_
  refine z_scx (pc := 321) C hX hb dL_law_321 (by omega) hn ?_
  refine z_aload_n (pc := 322) C dL_law_322 rfl ?_
  refine z_iload_n (pc := 323) C dL_law_323 rfl ?_
  refine z_iconstN (pc := 324) C 2 dL_law_324 ?_
  refine z_iaddN (pc := 325) C dL_law_325 ?_
  refine z_scx (pc := 326) C hX hb dL_law_326 (by omega) hn ?_
  refine kL_26 (pc := 327) C dL_law_327 (m7_drinks κ.2.1 E S1 im1 (B + 81) hM1 m n7 (im (B + 81 + 1)) e10 hok (xs (i + 1)) (xs (i + 2))) (ml_K hM1) (by omega) (Nat.le_of_ble_eq_true rfl) (by omega) (by omega) (fun v2 S2 im2 h2 => ?_)
  obtain ⟨rfl, rfl, hg, fp⟩ := h2
  refine z_icmp_eqT (pc := 330) C 1452 dL_law_330 (by decide) rfl ?_
  exact z_widen (by omega) (by omega) (nx _ _ (INV_F1 hI sx st1 fr hg fp (h02)))
set_option maxRecDepth 100000 in
set_option maxHeartbeats 4000000 in
theorem lw_as (C : Cx E κ cL_law 4 RL ret d Rc Rs nm) (hX : va_X b n xs κ.2.2.2.2.1 E.2.2.1) (hb : b < E.2.1) (hn : n < 2 ^ 31) (hi : i + 5 < n) (hd : 150 ≤ d) (hcl : c + 3 ≤ Rc) (hsl : s + 200 ≤ Rs) (hI : INV S im B) (nx : Nx E κ b B i c s) : V E κ 4 c s 335 [some (.ref b), some (.ref B), some (.ref (B + 81)), some (.int (nI i))] [] S im := by
  have hI0 := hI
  obtain ⟨⟨hC, hM, -⟩, ⟨⟨m, n7, hst⟩, h02⟩, -, ⟨hid, -⟩, h6, h7, -, h9⟩ := hI0
  have hok := ST_MOk hst
  refine z_aload_n (pc := 335) C dL_law_335 rfl ?_
  refine z_aload_n (pc := 336) C dL_law_336 rfl ?_
  refine z_iload_n (pc := 337) C dL_law_337 rfl ?_
  refine z_iconstN (pc := 338) C 1 dL_law_338 ?_
  refine z_iaddN (pc := 339) C dL_law_339 ?_
  refine z_scx (pc := 340) C hX hb dL_law_340 (by omega) hn ?_
  refine z_aload_n (pc := 341) C dL_law_341 rfl ?_
  refine z_iload_n (pc := 342) C dL_law_342 rfl ?_
  refine z_iconstN (pc := 343) C 2 dL_law_343 ?_
  refine z_iaddN (pc := 344) C dL_law_344 ?_
  refine z_scx (pc := 345) C hX hb dL_law_345 (by omega) hn ?_
  refine kL_27 (pc := 346) C dL_law_346 (c6_as κ.2.1 E S im B hC (B + 107) (Nat.le_refl _) (im (B + 81 + 1)) m n7 hst (xs (i + 1)) (xs (i + 2))) (cl_K hC) (by omega) (Nat.le_of_ble_eq_true rfl) (by omega) (by omega) (fun v1 S1 im1 h1 => ?_)
  obtain ⟨rfl, sx, ⟨m', st1⟩, fr⟩ := h1
  obtain ⟨hM1, e1⟩ := INV_r1 hI sx fr
  have e10 := e1 (B + 81 + 1) (by omega) (by omega)
  refine z_aload_n (pc := 349) C dL_law_349 rfl ?_
  refine z_aload_n (pc := 350) C dL_law_350 rfl ?_
  refine z_iload_n (pc := 351) C dL_law_351 rfl ?_
  refine z_iconstN (pc := 352) C 1 dL_law_352 ?_
  refine z_iaddN (pc := 353) C dL_law_353 ?_
  refine z_scx (pc := 354) C hX hb dL_law_354 (by omega) hn ?_
  refine z_aload_n (pc := 355) C dL_law_355 rfl ?_
  refine z_iload_n (pc := 356) C dL_law_356 rfl ?_
  refine z_iconstN (pc := 357) C 2 dL_law_357 ?_
  refine z_iaddN (pc := 358) C dL_law_358 ?_
  refine z_scx (pc := 359) C hX hb dL_law_359 (by omega) hn ?_
  refine kL_30 (pc := 360) C dL_law_360 (m7_as κ.2.1 E S1 im1 (B + 81) hM1 m n7 (im (B + 81 + 1)) e10 hok (xs (i + 1)) (xs (i + 2))) (ml_K hM1) (by omega) (Nat.le_of_ble_eq_true rfl) (by omega) (by omega) (fun v2 S2 im2 h2 => ?_)
  obtain ⟨rfl, rfl, hg, fp⟩ := h2
  refine z_icmp_eqT (pc := 363) C 1452 dL_law_363 (by decide) rfl ?_
  exact z_widen (by omega) (by omega) (nx _ _ (INV_F1 hI sx st1 fr hg fp (h02)))
set_option maxRecDepth 100000 in
set_option maxHeartbeats 4000000 in
theorem lw_turns (C : Cx E κ cL_law 4 RL ret d Rc Rs nm) (hX : va_X b n xs κ.2.2.2.2.1 E.2.2.1) (hb : b < E.2.1) (hn : n < 2 ^ 31) (hi : i + 5 < n) (hd : 150 ≤ d) (hcl : c + 3 ≤ Rc) (hsl : s + 200 ≤ Rs) (hI : INV S im B) (nx : Nx E κ b B i c s) : V E κ 4 c s 368 [some (.ref b), some (.ref B), some (.ref (B + 81)), some (.int (nI i))] [] S im := by
  have hI0 := hI
  obtain ⟨⟨hC, hM, -⟩, ⟨⟨m, n7, hst⟩, h02⟩, -, ⟨hid, -⟩, h6, h7, -, h9⟩ := hI0
  have hok := ST_MOk hst
  refine z_aload_n (pc := 368) C dL_law_368 rfl ?_
  refine z_aload_n (pc := 369) C dL_law_369 rfl ?_
  refine z_iload_n (pc := 370) C dL_law_370 rfl ?_
  refine z_iconstN (pc := 371) C 1 dL_law_371 ?_
  refine z_iaddN (pc := 372) C dL_law_372 ?_
  refine z_scx (pc := 373) C hX hb dL_law_373 (by omega) hn ?_
  refine z_aload_n (pc := 374) C dL_law_374 rfl ?_
  refine z_iload_n (pc := 375) C dL_law_375 rfl ?_
  refine z_iconstN (pc := 376) C 2 dL_law_376 ?_
  refine z_iaddN (pc := 377) C dL_law_377 ?_
  refine z_scx (pc := 378) C hX hb dL_law_378 (by omega) hn ?_
  refine kL_31 (pc := 379) C dL_law_379 (c6_turns κ.2.1 E S im B hC (B + 107) (Nat.le_refl _) (im (B + 81 + 1)) m n7 hst (xs (i + 1)) (xs (i + 2))) (cl_K hC) (by omega) (Nat.le_of_ble_eq_true rfl) (by omega) (by omega) (fun v1 S1 im1 h1 => ?_)
  obtain ⟨rfl, sx, ⟨m', st1⟩, fr⟩ := h1
  obtain ⟨hM1, e1⟩ := INV_r1 hI sx fr
  have e10 := e1 (B + 81 + 1) (by omega) (by omega)
  refine z_aload_n (pc := 382) C dL_law_382 rfl ?_
  refine z_aload_n (pc := 383) C dL_law_383 rfl ?_
  refine z_iload_n (pc := 384) C dL_law_384 rfl ?_
  refine z_iconstN (pc := 385) C 1 dL_law_385 ?_
  refine z_iaddN (pc := 386) C dL_law_386 ?_
  refine z_scx (pc := 387) C hX hb dL_law_387 (by omega) hn ?_
  refine z_aload_n (pc := 388) C dL_law_388 rfl ?_
  refine z_iload_n (pc := 389) C dL_law_389 rfl ?_
  refine z_iconstN (pc := 390) C 2 dL_law_390 ?_
  refine z_iaddN (pc := 391) C dL_law_391 ?_
  refine z_scx (pc := 392) C hX hb dL_law_392 (by omega) hn ?_
  refine kL_34 (pc := 393) C dL_law_393 (m7_turns κ.2.1 E S1 im1 (B + 81) hM1 m n7 (im (B + 81 + 1)) e10 hok (xs (i + 1)) (xs (i + 2))) (ml_K hM1) (by omega) (Nat.le_of_ble_eq_true rfl) (by omega) (by omega) (fun v2 S2 im2 h2 => ?_)
  obtain ⟨rfl, rfl, hg, fp⟩ := h2
  refine z_icmp_eqT (pc := 396) C 1452 dL_law_396 (by decide) rfl ?_
  exact z_widen (by omega) (by omega) (nx _ _ (INV_F1 hI sx st1 fr hg fp (by rw [f2_turns]; exact h02)))
set_option maxRecDepth 100000 in
set_option maxHeartbeats 4000000 in
theorem lw_set (C : Cx E κ cL_law 4 RL ret d Rc Rs nm) (hX : va_X b n xs κ.2.2.2.2.1 E.2.2.1) (hb : b < E.2.1) (hn : n < 2 ^ 31) (hi : i + 5 < n) (hd : 150 ≤ d) (hcl : c + 3 ≤ Rc) (hsl : s + 200 ≤ Rs) (hI : INV S im B) (nx : Nx E κ b B i c s) : V E κ 4 c s 401 [some (.ref b), some (.ref B), some (.ref (B + 81)), some (.int (nI i))] [] S im := by
  have hI0 := hI
  obtain ⟨⟨hC, hM, -⟩, ⟨⟨m, n7, hst⟩, h02⟩, -, ⟨hid, -⟩, h6, h7, -, h9⟩ := hI0
  have hok := ST_MOk hst
  refine z_aload_n (pc := 401) C dL_law_401 rfl ?_
  refine z_aload_n (pc := 402) C dL_law_402 rfl ?_
  refine z_iload_n (pc := 403) C dL_law_403 rfl ?_
  refine z_iconstN (pc := 404) C 1 dL_law_404 ?_
  refine z_iaddN (pc := 405) C dL_law_405 ?_
  refine z_scx (pc := 406) C hX hb dL_law_406 (by omega) hn ?_
  refine z_aload_n (pc := 407) C dL_law_407 rfl ?_
  refine z_iload_n (pc := 408) C dL_law_408 rfl ?_
  refine z_iconstN (pc := 409) C 2 dL_law_409 ?_
  refine z_iaddN (pc := 410) C dL_law_410 ?_
  refine z_scx (pc := 411) C hX hb dL_law_411 (by omega) hn ?_
  refine z_aload_n (pc := 412) C dL_law_412 rfl ?_
  refine z_iload_n (pc := 413) C dL_law_413 rfl ?_
  refine z_iconstN (pc := 414) C 3 dL_law_414 ?_
  refine z_iaddN (pc := 415) C dL_law_415 ?_
  refine z_scx (pc := 416) C hX hb dL_law_416 (by omega) hn ?_
  refine kL_35 (pc := 417) C dL_law_417 (c6_set κ.2.1 E S im B hC (B + 107) (Nat.le_refl _) (im (B + 81 + 1)) m n7 hst (xs (i + 1)) (xs (i + 2)) (xs (i + 3))) (cl_K hC) (by omega) (Nat.le_of_ble_eq_true rfl) (by omega) (by omega) (fun v1 S1 im1 h1 => ?_)
  obtain ⟨rfl, sx, ⟨m', st1⟩, fr⟩ := h1
  obtain ⟨hM1, e1⟩ := INV_r1 hI sx fr
  have e10 := e1 (B + 81 + 1) (by omega) (by omega)
  refine z_aload_n (pc := 420) C dL_law_420 rfl ?_
  refine z_aload_n (pc := 421) C dL_law_421 rfl ?_
  refine z_iload_n (pc := 422) C dL_law_422 rfl ?_
  refine z_iconstN (pc := 423) C 1 dL_law_423 ?_
  refine z_iaddN (pc := 424) C dL_law_424 ?_
  refine z_scx (pc := 425) C hX hb dL_law_425 (by omega) hn ?_
  refine z_aload_n (pc := 426) C dL_law_426 rfl ?_
  refine z_iload_n (pc := 427) C dL_law_427 rfl ?_
  refine z_iconstN (pc := 428) C 2 dL_law_428 ?_
  refine z_iaddN (pc := 429) C dL_law_429 ?_
  refine z_scx (pc := 430) C hX hb dL_law_430 (by omega) hn ?_
  refine z_aload_n (pc := 431) C dL_law_431 rfl ?_
  refine z_iload_n (pc := 432) C dL_law_432 rfl ?_
  refine z_iconstN (pc := 433) C 3 dL_law_433 ?_
  refine z_iaddN (pc := 434) C dL_law_434 ?_
  refine z_scx (pc := 435) C hX hb dL_law_435 (by omega) hn ?_
  refine kL_39 (pc := 436) C dL_law_436 (m7_set κ.2.1 E S1 im1 (B + 81) hM1 m n7 (im (B + 81 + 1)) e10 hok (xs (i + 1)) (xs (i + 2)) (xs (i + 3))) (ml_K hM1) (by omega) (Nat.le_of_ble_eq_true rfl) (by omega) (by omega) (fun v2 S2 im2 h2 => ?_)
  obtain ⟨rfl, rfl, hg, fp⟩ := h2
  refine z_icmp_eqT (pc := 439) C 1452 dL_law_439 (by decide) rfl ?_
  exact z_widen (by omega) (by omega) (nx _ _ (INV_F1 hI sx st1 fr hg fp (by rw [f2_set]; exact h02)))
set_option maxRecDepth 100000 in
set_option maxHeartbeats 4000000 in
theorem lw_deal (C : Cx E κ cL_law 4 RL ret d Rc Rs nm) (hX : va_X b n xs κ.2.2.2.2.1 E.2.2.1) (hb : b < E.2.1) (hn : n < 2 ^ 31) (hi : i + 5 < n) (hd : 150 ≤ d) (hcl : c + 3 ≤ Rc) (hsl : s + 200 ≤ Rs) (hI : INV S im B) (nx : Nx E κ b B i c s) : V E κ 4 c s 444 [some (.ref b), some (.ref B), some (.ref (B + 81)), some (.int (nI i))] [] S im := by
  have hI0 := hI
  obtain ⟨⟨hC, hM, -⟩, ⟨⟨m, n7, hst⟩, h02⟩, -, ⟨hid, -⟩, h6, h7, -, h9⟩ := hI0
  have hok := ST_MOk hst
  refine z_aload_n (pc := 444) C dL_law_444 rfl ?_
  refine z_aload_n (pc := 445) C dL_law_445 rfl ?_
  refine z_iload_n (pc := 446) C dL_law_446 rfl ?_
  refine z_iconstN (pc := 447) C 1 dL_law_447 ?_
  refine z_iaddN (pc := 448) C dL_law_448 ?_
  refine z_scx (pc := 449) C hX hb dL_law_449 (by omega) hn ?_
  refine kL_40 (pc := 450) C dL_law_450 (c6_deal κ.2.1 E S im B hC (B + 107) (Nat.le_refl _) (im (B + 81 + 1)) m n7 hst (xs (i + 1))) (cl_K hC) (by omega) (Nat.le_of_ble_eq_true rfl) (by omega) (by omega) (fun v1 S1 im1 h1 => ?_)
  obtain ⟨rfl, sx, ⟨m', st1⟩, fr⟩ := h1
  obtain ⟨hM1, e1⟩ := INV_r1 hI sx fr
  have e10 := e1 (B + 81 + 1) (by omega) (by omega)
  refine z_aload_n (pc := 453) C dL_law_453 rfl ?_
  refine z_aload_n (pc := 454) C dL_law_454 rfl ?_
  refine z_iload_n (pc := 455) C dL_law_455 rfl ?_
  refine z_iconstN (pc := 456) C 1 dL_law_456 ?_
  refine z_iaddN (pc := 457) C dL_law_457 ?_
  refine z_scx (pc := 458) C hX hb dL_law_458 (by omega) hn ?_
  refine kL_44 (pc := 459) C dL_law_459 (m7_deal κ.2.1 E S1 im1 (B + 81) hM1 m n7 (im (B + 81 + 1)) e10 hok (xs (i + 1))) (ml_K hM1) (by omega) (Nat.le_of_ble_eq_true rfl) (by omega) (by omega) (fun v2 S2 im2 h2 => ?_)
  obtain ⟨rfl, rfl, hg, fp⟩ := h2
  refine z_icmp_eqT (pc := 462) C 1452 dL_law_462 (by decide) rfl ?_
  exact z_widen (by omega) (by omega) (nx _ _ (INV_F1 hI sx st1 fr hg fp (by rw [f2_deal]; exact h02)))
set_option maxRecDepth 100000 in
set_option maxHeartbeats 4000000 in
theorem lw_seed (C : Cx E κ cL_law 4 RL ret d Rc Rs nm) (hX : va_X b n xs κ.2.2.2.2.1 E.2.2.1) (hb : b < E.2.1) (hn : n < 2 ^ 31) (hi : i + 5 < n) (hd : 150 ≤ d) (hcl : c + 3 ≤ Rc) (hsl : s + 200 ≤ Rs) (hI : INV S im B) (nx : Nx E κ b B i c s) : V E κ 4 c s 467 [some (.ref b), some (.ref B), some (.ref (B + 81)), some (.int (nI i))] [] S im := by
  have hI0 := hI
  obtain ⟨⟨hC, hM, -⟩, ⟨⟨m, n7, hst⟩, h02⟩, -, ⟨hid, -⟩, h6, h7, -, h9⟩ := hI0
  have hok := ST_MOk hst
  refine z_aload_n (pc := 467) C dL_law_467 rfl ?_
  refine z_aload_n (pc := 468) C dL_law_468 rfl ?_
  refine z_iload_n (pc := 469) C dL_law_469 rfl ?_
  refine z_iconstN (pc := 470) C 1 dL_law_470 ?_
  refine z_iaddN (pc := 471) C dL_law_471 ?_
  refine z_scx (pc := 472) C hX hb dL_law_472 (by omega) hn ?_
  refine kL_45 (pc := 473) C dL_law_473 (c6_seed κ.2.1 E S im B hC (B + 107) (Nat.le_refl _) (im (B + 81 + 1)) m n7 hst (xs (i + 1))) (cl_K hC) (by omega) (Nat.le_of_ble_eq_true rfl) (by omega) (by omega) (fun v1 S1 im1 h1 => ?_)
  obtain ⟨rfl, sx, ⟨m', st1⟩, fr⟩ := h1
  obtain ⟨hM1, e1⟩ := INV_r1 hI sx fr
  have e10 := e1 (B + 81 + 1) (by omega) (by omega)
  refine z_aload_n (pc := 476) C dL_law_476 rfl ?_
  refine z_aload_n (pc := 477) C dL_law_477 rfl ?_
  refine z_iload_n (pc := 478) C dL_law_478 rfl ?_
  refine z_iconstN (pc := 479) C 1 dL_law_479 ?_
  refine z_iaddN (pc := 480) C dL_law_480 ?_
  refine z_scx (pc := 481) C hX hb dL_law_481 (by omega) hn ?_
  refine kL_48 (pc := 482) C dL_law_482 (m7_seed κ.2.1 E S1 im1 (B + 81) hM1 m n7 (im (B + 81 + 1)) e10 hok (xs (i + 1))) (ml_K hM1) (by omega) (Nat.le_of_ble_eq_true rfl) (by omega) (by omega) (fun v2 S2 im2 h2 => ?_)
  obtain ⟨rfl, rfl, hg, fp⟩ := h2
  refine z_icmp_eqT (pc := 485) C 1452 dL_law_485 (by decide) rfl ?_
  exact z_widen (by omega) (by omega) (nx _ _ (INV_F1 hI sx st1 fr hg fp (by rw [upd_n _ _ (by omega)]; exact h02)))
set_option maxRecDepth 100000 in
set_option maxHeartbeats 4000000 in
theorem lw_rule (C : Cx E κ cL_law 4 RL ret d Rc Rs nm) (hX : va_X b n xs κ.2.2.2.2.1 E.2.2.1) (hb : b < E.2.1) (hn : n < 2 ^ 31) (hi : i + 5 < n) (hd : 150 ≤ d) (hcl : c + 3 ≤ Rc) (hsl : s + 200 ≤ Rs) (hI : INV S im B) (nx : Nx E κ b B i c s) : V E κ 4 c s 490 [some (.ref b), some (.ref B), some (.ref (B + 81)), some (.int (nI i))] [] S im := by
  have hI0 := hI
  obtain ⟨⟨hC, hM, -⟩, ⟨⟨m, n7, hst⟩, h02⟩, -, ⟨hid, -⟩, h6, h7, -, h9⟩ := hI0
  have hok := ST_MOk hst
  refine z_aload_n (pc := 490) C dL_law_490 rfl ?_
  refine z_aload_n (pc := 491) C dL_law_491 rfl ?_
  refine z_iload_n (pc := 492) C dL_law_492 rfl ?_
  refine z_iconstN (pc := 493) C 1 dL_law_493 ?_
  refine z_iaddN (pc := 494) C dL_law_494 ?_
  refine z_scx (pc := 495) C hX hb dL_law_495 (by omega) hn ?_
  refine z_aload_n (pc := 496) C dL_law_496 rfl ?_
  refine z_iload_n (pc := 497) C dL_law_497 rfl ?_
  refine z_iconstN (pc := 498) C 2 dL_law_498 ?_
  refine z_iaddN (pc := 499) C dL_law_499 ?_
  refine z_scx (pc := 500) C hX hb dL_law_500 (by omega) hn ?_
  refine kL_49 (pc := 501) C dL_law_501 (c6_rule κ.2.1 E S im B hC (B + 107) (Nat.le_refl _) (im (B + 81 + 1)) m n7 hst (xs (i + 1)) (xs (i + 2))) (cl_K hC) (by omega) (Nat.le_of_ble_eq_true rfl) (by omega) (by omega) (fun v1 S1 im1 h1 => ?_)
  obtain ⟨rfl, sx, ⟨m', st1⟩, fr⟩ := h1
  obtain ⟨hM1, e1⟩ := INV_r1 hI sx fr
  have e10 := e1 (B + 81 + 1) (by omega) (by omega)
  refine z_aload_n (pc := 504) C dL_law_504 rfl ?_
  refine z_aload_n (pc := 505) C dL_law_505 rfl ?_
  refine z_iload_n (pc := 506) C dL_law_506 rfl ?_
  refine z_iconstN (pc := 507) C 1 dL_law_507 ?_
  refine z_iaddN (pc := 508) C dL_law_508 ?_
  refine z_scx (pc := 509) C hX hb dL_law_509 (by omega) hn ?_
  refine z_aload_n (pc := 510) C dL_law_510 rfl ?_
  refine z_iload_n (pc := 511) C dL_law_511 rfl ?_
  refine z_iconstN (pc := 512) C 2 dL_law_512 ?_
  refine z_iaddN (pc := 513) C dL_law_513 ?_
  refine z_scx (pc := 514) C hX hb dL_law_514 (by omega) hn ?_
  refine kL_52 (pc := 515) C dL_law_515 (m7_rule κ.2.1 E S1 im1 (B + 81) hM1 m n7 (im (B + 81 + 1)) e10 hok (xs (i + 1)) (xs (i + 2))) (ml_K hM1) (by omega) (Nat.le_of_ble_eq_true rfl) (by omega) (by omega) (fun v2 S2 im2 h2 => ?_)
  obtain ⟨rfl, rfl, hg, fp⟩ := h2
  refine z_icmp_eqT (pc := 518) C 1452 dL_law_518 (by decide) rfl ?_
  exact z_widen (by omega) (by omega) (nx _ _ (INV_F1 hI sx st1 fr hg fp (by rw [f2_rule]; exact h02)))
set_option maxRecDepth 100000 in
set_option maxHeartbeats 4000000 in
theorem lw_order (C : Cx E κ cL_law 4 RL ret d Rc Rs nm) (hX : va_X b n xs κ.2.2.2.2.1 E.2.2.1) (hb : b < E.2.1) (hn : n < 2 ^ 31) (hi : i + 5 < n) (hd : 150 ≤ d) (hcl : c + 3 ≤ Rc) (hsl : s + 200 ≤ Rs) (hI : INV S im B) (nx : Nx E κ b B i c s) : V E κ 4 c s 523 [some (.ref b), some (.ref B), some (.ref (B + 81)), some (.int (nI i))] [] S im := by
  have hI0 := hI
  obtain ⟨⟨hC, hM, -⟩, ⟨⟨m, n7, hst⟩, h02⟩, -, ⟨hid, -⟩, h6, h7, -, h9⟩ := hI0
  have hok := ST_MOk hst
  refine z_aload_n (pc := 523) C dL_law_523 rfl ?_
  refine z_aload_n (pc := 524) C dL_law_524 rfl ?_
  refine z_iload_n (pc := 525) C dL_law_525 rfl ?_
  refine z_iconstN (pc := 526) C 1 dL_law_526 ?_
  refine z_iaddN (pc := 527) C dL_law_527 ?_
  refine z_scx (pc := 528) C hX hb dL_law_528 (by omega) hn ?_
  refine kL_53 (pc := 529) C dL_law_529 (c6_order κ.2.1 E S im B hC (B + 107) (Nat.le_refl _) (im (B + 81 + 1)) m n7 hst (xs (i + 1))) (cl_K hC) (by omega) (Nat.le_of_ble_eq_true rfl) (by omega) (by omega) (fun v1 S1 im1 h1 => ?_)
  obtain ⟨rfl, sx, ⟨m', st1⟩, fr⟩ := h1
  obtain ⟨hM1, e1⟩ := INV_r1 hI sx fr
  have e10 := e1 (B + 81 + 1) (by omega) (by omega)
  refine z_aload_n (pc := 532) C dL_law_532 rfl ?_
  refine z_aload_n (pc := 533) C dL_law_533 rfl ?_
  refine z_iload_n (pc := 534) C dL_law_534 rfl ?_
  refine z_iconstN (pc := 535) C 1 dL_law_535 ?_
  refine z_iaddN (pc := 536) C dL_law_536 ?_
  refine z_scx (pc := 537) C hX hb dL_law_537 (by omega) hn ?_
  refine kL_56 (pc := 538) C dL_law_538 (m7_order κ.2.1 E S1 im1 (B + 81) hM1 m n7 (im (B + 81 + 1)) e10 hok (xs (i + 1))) (ml_K hM1) (by omega) (Nat.le_of_ble_eq_true rfl) (by omega) (by omega) (fun v2 S2 im2 h2 => ?_)
  obtain ⟨rfl, rfl, hg, fp⟩ := h2
  refine z_icmp_eqT (pc := 541) C 1452 dL_law_541 (by decide) rfl ?_
  exact z_widen (by omega) (by omega) (nx _ _ (INV_F1 hI sx st1 fr hg fp (h02)))
set_option maxRecDepth 100000 in
set_option maxHeartbeats 4000000 in
theorem lw_nights (C : Cx E κ cL_law 4 RL ret d Rc Rs nm) (hX : va_X b n xs κ.2.2.2.2.1 E.2.2.1) (hb : b < E.2.1) (hn : n < 2 ^ 31) (hi : i + 5 < n) (hd : 150 ≤ d) (hcl : c + 3 ≤ Rc) (hsl : s + 200 ≤ Rs) (hI : INV S im B) (nx : Nx E κ b B i c s) : V E κ 4 c s 546 [some (.ref b), some (.ref B), some (.ref (B + 81)), some (.int (nI i))] [] S im := by
  have hI0 := hI
  obtain ⟨⟨hC, hM, -⟩, ⟨⟨m, n7, hst⟩, h02⟩, -, ⟨hid, -⟩, h6, h7, -, h9⟩ := hI0
  have hok := ST_MOk hst
  refine z_aload_n (pc := 546) C dL_law_546 rfl ?_
  refine z_aload_n (pc := 547) C dL_law_547 rfl ?_
  refine z_iload_n (pc := 548) C dL_law_548 rfl ?_
  refine z_iconstN (pc := 549) C 1 dL_law_549 ?_
  refine z_iaddN (pc := 550) C dL_law_550 ?_
  refine z_scx (pc := 551) C hX hb dL_law_551 (by omega) hn ?_
  refine kL_57 (pc := 552) C dL_law_552 (c6_nights κ.2.1 E S im B hC (B + 107) (Nat.le_refl _) (im (B + 81 + 1)) m n7 hst h02 (xs (i + 1))) (cl_K hC) (by omega) (Nat.le_of_ble_eq_true rfl) (by omega) (by omega) (fun v1 S1 im1 h1 => ?_)
  obtain ⟨rfl, sx, ⟨m', st1⟩, fr⟩ := h1
  obtain ⟨hM1, e1⟩ := INV_r1 hI sx fr
  have e10 := e1 (B + 81 + 1) (by omega) (by omega)
  refine z_aload_n (pc := 555) C dL_law_555 rfl ?_
  refine z_aload_n (pc := 556) C dL_law_556 rfl ?_
  refine z_iload_n (pc := 557) C dL_law_557 rfl ?_
  refine z_iconstN (pc := 558) C 1 dL_law_558 ?_
  refine z_iaddN (pc := 559) C dL_law_559 ?_
  refine z_scx (pc := 560) C hX hb dL_law_560 (by omega) hn ?_
  refine kL_60 (pc := 561) C dL_law_561 (m7_nights κ.2.1 E S1 im1 (B + 81) hM1 m n7 (im (B + 81 + 1)) e10 hok (by rw [e1 (B + 81) (by omega) (by omega)]; exact hid) (xs (i + 1))) (ml_K hM1) (by omega) (Nat.le_of_ble_eq_true rfl) (by omega) (by omega) (fun v2 S2 im2 h2 => ?_)
  obtain ⟨rfl, rfl, hg, fp⟩ := h2
  refine z_icmp_eqT (pc := 564) C 1452 dL_law_564 (by decide) rfl ?_
  exact z_widen (by omega) (by omega) (nx _ _ (INV_F1 hI sx st1 fr hg fp (f2_nights h02)))
set_option maxRecDepth 100000 in
set_option maxHeartbeats 4000000 in
theorem lw_way (C : Cx E κ cL_law 4 RL ret d Rc Rs nm) (hX : va_X b n xs κ.2.2.2.2.1 E.2.2.1) (hb : b < E.2.1) (hn : n < 2 ^ 31) (hi : i + 5 < n) (hd : 150 ≤ d) (hcl : c + 3 ≤ Rc) (hsl : s + 200 ≤ Rs) (hI : INV S im B) (nx : Nx E κ b B i c s) : V E κ 4 c s 569 [some (.ref b), some (.ref B), some (.ref (B + 81)), some (.int (nI i))] [] S im := by
  have hI0 := hI
  obtain ⟨⟨hC, hM, -⟩, ⟨⟨m, n7, hst⟩, h02⟩, -, ⟨hid, -⟩, h6, h7, -, h9⟩ := hI0
  have hok := ST_MOk hst
  refine z_aload_n (pc := 569) C dL_law_569 rfl ?_
  refine kL_61 (pc := 570) C dL_law_570 (c6_way κ.2.1 E S im B hC (B + 107) (Nat.le_refl _) (im (B + 81 + 1)) m n7 hst ) (cl_K hC) (by omega) (Nat.le_of_ble_eq_true rfl) (by omega) (by omega) (fun v1 S1 im1 h1 => ?_)
  obtain ⟨rfl, sx, ⟨m', st1⟩, fr⟩ := h1
  obtain ⟨hM1, e1⟩ := INV_r1 hI sx fr
  have e10 := e1 (B + 81 + 1) (by omega) (by omega)
  refine z_aload_n (pc := 573) C dL_law_573 rfl ?_
  refine kL_65 (pc := 574) C dL_law_574 (m7_way κ.2.1 E S1 im1 (B + 81) hM1 m n7 (im (B + 81 + 1)) e10 hok ) (ml_K hM1) (by omega) (Nat.le_of_ble_eq_true rfl) (by omega) (by omega) (fun v2 S2 im2 h2 => ?_)
  obtain ⟨rfl, rfl, hg, fp⟩ := h2
  refine z_icmp_eqT (pc := 577) C 1452 dL_law_577 (by decide) rfl ?_
  exact z_widen (by omega) (by omega) (nx _ _ (INV_F1 hI sx st1 fr hg fp (h02)))
set_option maxRecDepth 100000 in
set_option maxHeartbeats 4000000 in
theorem lw_dark (C : Cx E κ cL_law 4 RL ret d Rc Rs nm) (hX : va_X b n xs κ.2.2.2.2.1 E.2.2.1) (hb : b < E.2.1) (hn : n < 2 ^ 31) (hi : i + 5 < n) (hd : 150 ≤ d) (hcl : c + 3 ≤ Rc) (hsl : s + 200 ≤ Rs) (hI : INV S im B) (nx : Nx E κ b B i c s) : V E κ 4 c s 582 [some (.ref b), some (.ref B), some (.ref (B + 81)), some (.int (nI i))] [] S im := by
  have hI0 := hI
  obtain ⟨⟨hC, hM, -⟩, ⟨⟨m, n7, hst⟩, h02⟩, -, ⟨hid, -⟩, h6, h7, -, h9⟩ := hI0
  have hok := ST_MOk hst
  refine z_aload_n (pc := 582) C dL_law_582 rfl ?_
  refine z_aload_n (pc := 583) C dL_law_583 rfl ?_
  refine z_iload_n (pc := 584) C dL_law_584 rfl ?_
  refine z_iconstN (pc := 585) C 1 dL_law_585 ?_
  refine z_iaddN (pc := 586) C dL_law_586 ?_
  refine z_scx (pc := 587) C hX hb dL_law_587 (by omega) hn ?_
  refine kL_66 (pc := 588) C dL_law_588 (c6_dark κ.2.1 E S im B hC (B + 107) (Nat.le_refl _) (im (B + 81 + 1)) m n7 hst (xs (i + 1))) (cl_K hC) (by omega) (Nat.le_of_ble_eq_true rfl) (by omega) (by omega) (fun v1 S1 im1 h1 => ?_)
  obtain ⟨rfl, sx, ⟨m', st1⟩, fr⟩ := h1
  obtain ⟨hM1, e1⟩ := INV_r1 hI sx fr
  have e10 := e1 (B + 81 + 1) (by omega) (by omega)
  refine z_aload_n (pc := 591) C dL_law_591 rfl ?_
  refine z_aload_n (pc := 592) C dL_law_592 rfl ?_
  refine z_iload_n (pc := 593) C dL_law_593 rfl ?_
  refine z_iconstN (pc := 594) C 1 dL_law_594 ?_
  refine z_iaddN (pc := 595) C dL_law_595 ?_
  refine z_scx (pc := 596) C hX hb dL_law_596 (by omega) hn ?_
  refine kL_69 (pc := 597) C dL_law_597 (m7_dark κ.2.1 E S1 im1 (B + 81) hM1 m n7 (im (B + 81 + 1)) e10 hok (xs (i + 1))) (ml_K hM1) (by omega) (Nat.le_of_ble_eq_true rfl) (by omega) (by omega) (fun v2 S2 im2 h2 => ?_)
  obtain ⟨rfl, rfl, hg, fp⟩ := h2
  refine z_icmp_eqT (pc := 600) C 1452 dL_law_600 (by decide) rfl ?_
  exact z_widen (by omega) (by omega) (nx _ _ (INV_F1 hI sx st1 fr hg fp (h02)))
set_option maxRecDepth 100000 in
set_option maxHeartbeats 4000000 in
theorem lw_street (C : Cx E κ cL_law 4 RL ret d Rc Rs nm) (hX : va_X b n xs κ.2.2.2.2.1 E.2.2.1) (hb : b < E.2.1) (hn : n < 2 ^ 31) (hi : i + 5 < n) (hd : 150 ≤ d) (hcl : c + 3 ≤ Rc) (hsl : s + 200 ≤ Rs) (hI : INV S im B) (nx : Nx E κ b B i c s) : V E κ 4 c s 605 [some (.ref b), some (.ref B), some (.ref (B + 81)), some (.int (nI i))] [] S im := by
  have hI0 := hI
  obtain ⟨⟨hC, hM, -⟩, ⟨⟨m, n7, hst⟩, h02⟩, -, ⟨hid, -⟩, h6, h7, -, h9⟩ := hI0
  have hok := ST_MOk hst
  refine z_aload_n (pc := 605) C dL_law_605 rfl ?_
  refine z_aload_n (pc := 606) C dL_law_606 rfl ?_
  refine z_iload_n (pc := 607) C dL_law_607 rfl ?_
  refine z_iconstN (pc := 608) C 1 dL_law_608 ?_
  refine z_iaddN (pc := 609) C dL_law_609 ?_
  refine z_scx (pc := 610) C hX hb dL_law_610 (by omega) hn ?_
  refine kL_70 (pc := 611) C dL_law_611 (c6_street κ.2.1 E S im B hC (B + 107) (Nat.le_refl _) (im (B + 81 + 1)) m n7 hst (xs (i + 1))) (cl_K hC) (by omega) (Nat.le_of_ble_eq_true rfl) (by omega) (by omega) (fun v1 S1 im1 h1 => ?_)
  obtain ⟨rfl, sx, ⟨m', st1⟩, fr⟩ := h1
  obtain ⟨hM1, e1⟩ := INV_r1 hI sx fr
  have e10 := e1 (B + 81 + 1) (by omega) (by omega)
  refine z_aload_n (pc := 614) C dL_law_614 rfl ?_
  refine z_aload_n (pc := 615) C dL_law_615 rfl ?_
  refine z_iload_n (pc := 616) C dL_law_616 rfl ?_
  refine z_iconstN (pc := 617) C 1 dL_law_617 ?_
  refine z_iaddN (pc := 618) C dL_law_618 ?_
  refine z_scx (pc := 619) C hX hb dL_law_619 (by omega) hn ?_
  refine kL_73 (pc := 620) C dL_law_620 (m7_street κ.2.1 E S1 im1 (B + 81) hM1 m n7 (im (B + 81 + 1)) e10 hok (xs (i + 1))) (ml_K hM1) (by omega) (Nat.le_of_ble_eq_true rfl) (by omega) (by omega) (fun v2 S2 im2 h2 => ?_)
  obtain ⟨rfl, rfl, rfl⟩ := h2
  refine z_icmp_eqT (pc := 623) C 1452 dL_law_623 (by decide) rfl ?_
  exact z_widen (by omega) (by omega) (nx _ _ (INV_F1 hI sx st1 fr e10 frP.rf0 (h02)))
set_option maxRecDepth 100000 in
set_option maxHeartbeats 4000000 in
theorem lw_behind (C : Cx E κ cL_law 4 RL ret d Rc Rs nm) (hX : va_X b n xs κ.2.2.2.2.1 E.2.2.1) (hb : b < E.2.1) (hn : n < 2 ^ 31) (hi : i + 5 < n) (hd : 150 ≤ d) (hcl : c + 3 ≤ Rc) (hsl : s + 200 ≤ Rs) (hI : INV S im B) (nx : Nx E κ b B i c s) : V E κ 4 c s 628 [some (.ref b), some (.ref B), some (.ref (B + 81)), some (.int (nI i))] [] S im := by
  have hI0 := hI
  obtain ⟨⟨hC, hM, -⟩, ⟨⟨m, n7, hst⟩, h02⟩, -, ⟨hid, -⟩, h6, h7, -, h9⟩ := hI0
  have hok := ST_MOk hst
  refine z_aload_n (pc := 628) C dL_law_628 rfl ?_
  refine z_aload_n (pc := 629) C dL_law_629 rfl ?_
  refine z_iload_n (pc := 630) C dL_law_630 rfl ?_
  refine z_iconstN (pc := 631) C 1 dL_law_631 ?_
  refine z_iaddN (pc := 632) C dL_law_632 ?_
  refine z_scx (pc := 633) C hX hb dL_law_633 (by omega) hn ?_
  refine z_aload_n (pc := 634) C dL_law_634 rfl ?_
  refine z_iload_n (pc := 635) C dL_law_635 rfl ?_
  refine z_iconstN (pc := 636) C 2 dL_law_636 ?_
  refine z_iaddN (pc := 637) C dL_law_637 ?_
  refine z_scx (pc := 638) C hX hb dL_law_638 (by omega) hn ?_
  refine kL_74 (pc := 639) C dL_law_639 (c6_behind κ.2.1 E S im B hC (B + 107) (Nat.le_refl _) (im (B + 81 + 1)) m n7 hst (xs (i + 1)) (xs (i + 2))) (cl_K hC) (by omega) (Nat.le_of_ble_eq_true rfl) (by omega) (by omega) (fun v1 S1 im1 h1 => ?_)
  obtain ⟨rfl, sx, ⟨m', st1⟩, fr⟩ := h1
  obtain ⟨hM1, e1⟩ := INV_r1 hI sx fr
  have e10 := e1 (B + 81 + 1) (by omega) (by omega)
  refine z_aload_n (pc := 642) C dL_law_642 rfl ?_
  refine z_aload_n (pc := 643) C dL_law_643 rfl ?_
  refine z_iload_n (pc := 644) C dL_law_644 rfl ?_
  refine z_iconstN (pc := 645) C 1 dL_law_645 ?_
  refine z_iaddN (pc := 646) C dL_law_646 ?_
  refine z_scx (pc := 647) C hX hb dL_law_647 (by omega) hn ?_
  refine z_aload_n (pc := 648) C dL_law_648 rfl ?_
  refine z_iload_n (pc := 649) C dL_law_649 rfl ?_
  refine z_iconstN (pc := 650) C 2 dL_law_650 ?_
  refine z_iaddN (pc := 651) C dL_law_651 ?_
  refine z_scx (pc := 652) C hX hb dL_law_652 (by omega) hn ?_
  refine kL_77 (pc := 653) C dL_law_653 (m7_behind κ.2.1 E S1 im1 (B + 81) hM1 m n7 (im (B + 81 + 1)) e10 hok (by rw [e1 (B + 81) (by omega) (by omega)]; exact hid) (xs (i + 1)) (xs (i + 2))) (ml_K hM1) (by omega) (Nat.le_of_ble_eq_true rfl) (by omega) (by omega) (fun v2 S2 im2 h2 => ?_)
  obtain ⟨rfl, rfl, hg, fp⟩ := h2
  refine z_icmp_eqT (pc := 656) C 1452 dL_law_656 (by decide) rfl ?_
  exact z_widen (by omega) (by omega) (nx _ _ (INV_F1 hI sx st1 fr hg fp (h02)))
set_option maxRecDepth 100000 in
set_option maxHeartbeats 4000000 in
theorem lw_round (C : Cx E κ cL_law 4 RL ret d Rc Rs nm) (hX : va_X b n xs κ.2.2.2.2.1 E.2.2.1) (hb : b < E.2.1) (hn : n < 2 ^ 31) (hi : i + 5 < n) (hd : 150 ≤ d) (hcl : c + 3 ≤ Rc) (hsl : s + 200 ≤ Rs) (hI : INV S im B) (nx : Nx E κ b B i c s) : V E κ 4 c s 661 [some (.ref b), some (.ref B), some (.ref (B + 81)), some (.int (nI i))] [] S im := by
  have hI0 := hI
  obtain ⟨⟨hC, hM, -⟩, ⟨⟨m, n7, hst⟩, h02⟩, -, ⟨hid, -⟩, h6, h7, -, h9⟩ := hI0
  have hok := ST_MOk hst
  refine z_aload_n (pc := 661) C dL_law_661 rfl ?_
  refine kL_78 (pc := 662) C dL_law_662 (c6_round κ.2.1 E S im B hC (B + 107) (Nat.le_refl _) (im (B + 81 + 1)) m n7 hst ) (cl_K hC) (by omega) (Nat.le_of_ble_eq_true rfl) (by omega) (by omega) (fun v1 S1 im1 h1 => ?_)
  obtain ⟨rfl, sx, ⟨m', st1⟩, fr⟩ := h1
  obtain ⟨hM1, e1⟩ := INV_r1 hI sx fr
  have e10 := e1 (B + 81 + 1) (by omega) (by omega)
  refine z_aload_n (pc := 665) C dL_law_665 rfl ?_
  refine kL_81 (pc := 666) C dL_law_666 (m7_round κ.2.1 E S1 im1 (B + 81) hM1 m n7 (im (B + 81 + 1)) e10 hok (by rw [e1 (B + 81) (by omega) (by omega)]; exact hid) ) (ml_K hM1) (by omega) (Nat.le_of_ble_eq_true rfl) (by omega) (by omega) (fun v2 S2 im2 h2 => ?_)
  obtain ⟨rfl, rfl, hg, fp⟩ := h2
  refine z_icmp_eqT (pc := 669) C 1452 dL_law_669 (by decide) rfl ?_
  exact z_widen (by omega) (by omega) (nx _ _ (INV_F1 hI sx st1 fr hg fp (h02)))
set_option maxRecDepth 100000 in
set_option maxHeartbeats 4000000 in
theorem lw_first (C : Cx E κ cL_law 4 RL ret d Rc Rs nm) (hX : va_X b n xs κ.2.2.2.2.1 E.2.2.1) (hb : b < E.2.1) (hn : n < 2 ^ 31) (hi : i + 5 < n) (hd : 150 ≤ d) (hcl : c + 3 ≤ Rc) (hsl : s + 200 ≤ Rs) (hI : INV S im B) (nx : Nx E κ b B i c s) : V E κ 4 c s 674 [some (.ref b), some (.ref B), some (.ref (B + 81)), some (.int (nI i))] [] S im := by
  have hI0 := hI
  obtain ⟨⟨hC, hM, -⟩, ⟨⟨m, n7, hst⟩, h02⟩, -, ⟨hid, -⟩, h6, h7, -, h9⟩ := hI0
  have hok := ST_MOk hst
  refine z_aload_n (pc := 674) C dL_law_674 rfl ?_
  refine z_aload_n (pc := 675) C dL_law_675 rfl ?_
  refine z_iload_n (pc := 676) C dL_law_676 rfl ?_
  refine z_iconstN (pc := 677) C 1 dL_law_677 ?_
  refine z_iaddN (pc := 678) C dL_law_678 ?_
  refine z_scx (pc := 679) C hX hb dL_law_679 (by omega) hn ?_
  refine z_aload_n (pc := 680) C dL_law_680 rfl ?_
  refine z_iload_n (pc := 681) C dL_law_681 rfl ?_
  refine z_iconstN (pc := 682) C 2 dL_law_682 ?_
  refine z_iaddN (pc := 683) C dL_law_683 ?_
  refine z_scx (pc := 684) C hX hb dL_law_684 (by omega) hn ?_
  refine kL_82 (pc := 685) C dL_law_685 (c6_first κ.2.1 E S im B hC (B + 107) (Nat.le_refl _) (im (B + 81 + 1)) m n7 hst (xs (i + 1)) (xs (i + 2))) (cl_K hC) (by omega) (Nat.le_of_ble_eq_true rfl) (by omega) (by omega) (fun v1 S1 im1 h1 => ?_)
  obtain ⟨rfl, sx, ⟨m', st1⟩, fr⟩ := h1
  obtain ⟨hM1, e1⟩ := INV_r1 hI sx fr
  have e10 := e1 (B + 81 + 1) (by omega) (by omega)
  refine z_aload_n (pc := 688) C dL_law_688 rfl ?_
  refine z_aload_n (pc := 689) C dL_law_689 rfl ?_
  refine z_iload_n (pc := 690) C dL_law_690 rfl ?_
  refine z_iconstN (pc := 691) C 1 dL_law_691 ?_
  refine z_iaddN (pc := 692) C dL_law_692 ?_
  refine z_scx (pc := 693) C hX hb dL_law_693 (by omega) hn ?_
  refine z_aload_n (pc := 694) C dL_law_694 rfl ?_
  refine z_iload_n (pc := 695) C dL_law_695 rfl ?_
  refine z_iconstN (pc := 696) C 2 dL_law_696 ?_
  refine z_iaddN (pc := 697) C dL_law_697 ?_
  refine z_scx (pc := 698) C hX hb dL_law_698 (by omega) hn ?_
  refine kL_85 (pc := 699) C dL_law_699 (m7_first κ.2.1 E S1 im1 (B + 81) hM1 m n7 (im (B + 81 + 1)) e10 hok (by rw [e1 (B + 81) (by omega) (by omega)]; exact hid) (xs (i + 1)) (xs (i + 2))) (ml_K hM1) (by omega) (Nat.le_of_ble_eq_true rfl) (by omega) (by omega) (fun v2 S2 im2 h2 => ?_)
  obtain ⟨rfl, rfl, hg, fp⟩ := h2
  refine z_icmp_eqT (pc := 702) C 1452 dL_law_702 (by decide) rfl ?_
  exact z_widen (by omega) (by omega) (nx _ _ (INV_F1 hI sx st1 fr hg fp (h02)))
set_option maxRecDepth 100000 in
set_option maxHeartbeats 4000000 in
theorem lw_leastLaw (C : Cx E κ cL_law 4 RL ret d Rc Rs nm) (hX : va_X b n xs κ.2.2.2.2.1 E.2.2.1) (hb : b < E.2.1) (hn : n < 2 ^ 31) (hi : i + 5 < n) (hd : 150 ≤ d) (hcl : c + 3 ≤ Rc) (hsl : s + 200 ≤ Rs) (hI : INV S im B) (nx : Nx E κ b B i c s) : V E κ 4 c s 707 [some (.ref b), some (.ref B), some (.ref (B + 81)), some (.int (nI i))] [] S im := by
  have hI0 := hI
  obtain ⟨⟨hC, hM, -⟩, ⟨⟨m, n7, hst⟩, h02⟩, -, ⟨hid, -⟩, h6, h7, -, h9⟩ := hI0
  have hok := ST_MOk hst
  refine z_aload_n (pc := 707) C dL_law_707 rfl ?_
  refine z_aload_n (pc := 708) C dL_law_708 rfl ?_
  refine z_iload_n (pc := 709) C dL_law_709 rfl ?_
  refine z_iconstN (pc := 710) C 1 dL_law_710 ?_
  refine z_iaddN (pc := 711) C dL_law_711 ?_
  refine z_scx (pc := 712) C hX hb dL_law_712 (by omega) hn ?_
  refine z_aload_n (pc := 713) C dL_law_713 rfl ?_
  refine z_iload_n (pc := 714) C dL_law_714 rfl ?_
  refine z_iconstN (pc := 715) C 2 dL_law_715 ?_
  refine z_iaddN (pc := 716) C dL_law_716 ?_
  refine z_scx (pc := 717) C hX hb dL_law_717 (by omega) hn ?_
  refine kL_86 (pc := 718) C dL_law_718 (c6_leastLaw κ.2.1 E S im B hC (B + 107) (Nat.le_refl _) (im (B + 81 + 1)) m n7 hst (xs (i + 1)) (xs (i + 2))) (cl_K hC) (by omega) (Nat.le_of_ble_eq_true rfl) (by omega) (by omega) (fun v1 S1 im1 h1 => ?_)
  obtain ⟨rfl, sx, ⟨m', st1⟩, fr⟩ := h1
  obtain ⟨hM1, e1⟩ := INV_r1 hI sx fr
  have e10 := e1 (B + 81 + 1) (by omega) (by omega)
  refine z_aload_n (pc := 721) C dL_law_721 rfl ?_
  refine z_aload_n (pc := 722) C dL_law_722 rfl ?_
  refine z_iload_n (pc := 723) C dL_law_723 rfl ?_
  refine z_iconstN (pc := 724) C 1 dL_law_724 ?_
  refine z_iaddN (pc := 725) C dL_law_725 ?_
  refine z_scx (pc := 726) C hX hb dL_law_726 (by omega) hn ?_
  refine z_aload_n (pc := 727) C dL_law_727 rfl ?_
  refine z_iload_n (pc := 728) C dL_law_728 rfl ?_
  refine z_iconstN (pc := 729) C 2 dL_law_729 ?_
  refine z_iaddN (pc := 730) C dL_law_730 ?_
  refine z_scx (pc := 731) C hX hb dL_law_731 (by omega) hn ?_
  refine kL_89 (pc := 732) C dL_law_732 (m7_leastLaw κ.2.1 E S1 im1 (B + 81) hM1 m n7 (im (B + 81 + 1)) e10 hok (by rw [e1 (B + 81) (by omega) (by omega)]; exact hid) (xs (i + 1)) (xs (i + 2))) (ml_K hM1) (by omega) (Nat.le_of_ble_eq_true rfl) (by omega) (by omega) (fun v2 S2 im2 h2 => ?_)
  obtain ⟨rfl, rfl, hg, fp⟩ := h2
  refine z_icmp_eqT (pc := 735) C 1452 dL_law_735 (by decide) rfl ?_
  exact z_widen (by omega) (by omega) (nx _ _ (INV_F1 hI sx st1 fr hg fp (h02)))
set_option maxRecDepth 100000 in
set_option maxHeartbeats 4000000 in
theorem lw_spared (C : Cx E κ cL_law 4 RL ret d Rc Rs nm) (hX : va_X b n xs κ.2.2.2.2.1 E.2.2.1) (hb : b < E.2.1) (hn : n < 2 ^ 31) (hi : i + 5 < n) (hd : 150 ≤ d) (hcl : c + 3 ≤ Rc) (hsl : s + 200 ≤ Rs) (hI : INV S im B) (nx : Nx E κ b B i c s) : V E κ 4 c s 740 [some (.ref b), some (.ref B), some (.ref (B + 81)), some (.int (nI i))] [] S im := by
  have hI0 := hI
  obtain ⟨⟨hC, hM, -⟩, ⟨⟨m, n7, hst⟩, h02⟩, -, ⟨hid, -⟩, h6, h7, -, h9⟩ := hI0
  have hok := ST_MOk hst
  refine z_aload_n (pc := 740) C dL_law_740 rfl ?_
  refine z_aload_n (pc := 741) C dL_law_741 rfl ?_
  refine z_iload_n (pc := 742) C dL_law_742 rfl ?_
  refine z_iconstN (pc := 743) C 1 dL_law_743 ?_
  refine z_iaddN (pc := 744) C dL_law_744 ?_
  refine z_scx (pc := 745) C hX hb dL_law_745 (by omega) hn ?_
  refine z_aload_n (pc := 746) C dL_law_746 rfl ?_
  refine z_iload_n (pc := 747) C dL_law_747 rfl ?_
  refine z_iconstN (pc := 748) C 2 dL_law_748 ?_
  refine z_iaddN (pc := 749) C dL_law_749 ?_
  refine z_scx (pc := 750) C hX hb dL_law_750 (by omega) hn ?_
  refine kL_90 (pc := 751) C dL_law_751 (c6_spared κ.2.1 E S im B hC (B + 107) (Nat.le_refl _) (im (B + 81 + 1)) m n7 hst (xs (i + 1)) (xs (i + 2))) (cl_K hC) (by omega) (Nat.le_of_ble_eq_true rfl) (by omega) (by omega) (fun v1 S1 im1 h1 => ?_)
  obtain ⟨rfl, sx, ⟨m', st1⟩, fr⟩ := h1
  obtain ⟨hM1, e1⟩ := INV_r1 hI sx fr
  have e10 := e1 (B + 81 + 1) (by omega) (by omega)
  refine z_aload_n (pc := 754) C dL_law_754 rfl ?_
  refine z_aload_n (pc := 755) C dL_law_755 rfl ?_
  refine z_iload_n (pc := 756) C dL_law_756 rfl ?_
  refine z_iconstN (pc := 757) C 1 dL_law_757 ?_
  refine z_iaddN (pc := 758) C dL_law_758 ?_
  refine z_scx (pc := 759) C hX hb dL_law_759 (by omega) hn ?_
  refine z_aload_n (pc := 760) C dL_law_760 rfl ?_
  refine z_iload_n (pc := 761) C dL_law_761 rfl ?_
  refine z_iconstN (pc := 762) C 2 dL_law_762 ?_
  refine z_iaddN (pc := 763) C dL_law_763 ?_
  refine z_scx (pc := 764) C hX hb dL_law_764 (by omega) hn ?_
  refine kL_93 (pc := 765) C dL_law_765 (m7_spared κ.2.1 E S1 im1 (B + 81) hM1 m n7 (im (B + 81 + 1)) e10 hok (by rw [e1 (B + 81) (by omega) (by omega)]; exact hid) (xs (i + 1)) (xs (i + 2))) (ml_K hM1) (by omega) (Nat.le_of_ble_eq_true rfl) (by omega) (by omega) (fun v2 S2 im2 h2 => ?_)
  obtain ⟨rfl, rfl, hg, fp⟩ := h2
  refine z_icmp_eqT (pc := 768) C 1452 dL_law_768 (by decide) rfl ?_
  exact z_widen (by omega) (by omega) (nx _ _ (INV_F1 hI sx st1 fr hg fp (h02)))
set_option maxRecDepth 100000 in
set_option maxHeartbeats 4000000 in
theorem lw_last (C : Cx E κ cL_law 4 RL ret d Rc Rs nm) (hX : va_X b n xs κ.2.2.2.2.1 E.2.2.1) (hb : b < E.2.1) (hn : n < 2 ^ 31) (hi : i + 5 < n) (hd : 150 ≤ d) (hcl : c + 3 ≤ Rc) (hsl : s + 200 ≤ Rs) (hI : INV S im B) (nx : Nx E κ b B i c s) : V E κ 4 c s 773 [some (.ref b), some (.ref B), some (.ref (B + 81)), some (.int (nI i))] [] S im := by
  have hI0 := hI
  obtain ⟨⟨hC, hM, -⟩, ⟨⟨m, n7, hst⟩, h02⟩, -, ⟨hid, -⟩, h6, h7, -, h9⟩ := hI0
  have hok := ST_MOk hst
  refine z_aload_n (pc := 773) C dL_law_773 rfl ?_
  refine z_aload_n (pc := 774) C dL_law_774 rfl ?_
  refine z_iload_n (pc := 775) C dL_law_775 rfl ?_
  refine z_iconstN (pc := 776) C 1 dL_law_776 ?_
  refine z_iaddN (pc := 777) C dL_law_777 ?_
  refine z_scx (pc := 778) C hX hb dL_law_778 (by omega) hn ?_
  refine z_aload_n (pc := 779) C dL_law_779 rfl ?_
  refine z_iload_n (pc := 780) C dL_law_780 rfl ?_
  refine z_iconstN (pc := 781) C 2 dL_law_781 ?_
  refine z_iaddN (pc := 782) C dL_law_782 ?_
  refine z_scx (pc := 783) C hX hb dL_law_783 (by omega) hn ?_
  refine kL_94 (pc := 784) C dL_law_784 (c6_last κ.2.1 E S im B hC (B + 107) (Nat.le_refl _) (im (B + 81 + 1)) m n7 hst (xs (i + 1)) (xs (i + 2))) (cl_K hC) (by omega) (Nat.le_of_ble_eq_true rfl) (by omega) (by omega) (fun v1 S1 im1 h1 => ?_)
  obtain ⟨rfl, sx, ⟨m', st1⟩, fr⟩ := h1
  obtain ⟨hM1, e1⟩ := INV_r1 hI sx fr
  have e10 := e1 (B + 81 + 1) (by omega) (by omega)
  refine z_aload_n (pc := 787) C dL_law_787 rfl ?_
  refine z_aload_n (pc := 788) C dL_law_788 rfl ?_
  refine z_iload_n (pc := 789) C dL_law_789 rfl ?_
  refine z_iconstN (pc := 790) C 1 dL_law_790 ?_
  refine z_iaddN (pc := 791) C dL_law_791 ?_
  refine z_scx (pc := 792) C hX hb dL_law_792 (by omega) hn ?_
  refine z_aload_n (pc := 793) C dL_law_793 rfl ?_
  refine z_iload_n (pc := 794) C dL_law_794 rfl ?_
  refine z_iconstN (pc := 795) C 2 dL_law_795 ?_
  refine z_iaddN (pc := 796) C dL_law_796 ?_
  refine z_scx (pc := 797) C hX hb dL_law_797 (by omega) hn ?_
  refine kL_97 (pc := 798) C dL_law_798 (m7_last κ.2.1 E S1 im1 (B + 81) hM1 m n7 (im (B + 81 + 1)) e10 hok (by rw [e1 (B + 81) (by omega) (by omega)]; exact hid) (xs (i + 1)) (xs (i + 2))) (ml_K hM1) (by omega) (Nat.le_of_ble_eq_true rfl) (by omega) (by omega) (fun v2 S2 im2 h2 => ?_)
  obtain ⟨rfl, rfl, hg, fp⟩ := h2
  refine z_icmp_eqT (pc := 801) C 1452 dL_law_801 (by decide) rfl ?_
  exact z_widen (by omega) (by omega) (nx _ _ (INV_F1 hI sx st1 fr hg fp (h02)))
set_option maxRecDepth 100000 in
set_option maxHeartbeats 4000000 in
theorem lw_fee (C : Cx E κ cL_law 4 RL ret d Rc Rs nm) (hX : va_X b n xs κ.2.2.2.2.1 E.2.2.1) (hb : b < E.2.1) (hn : n < 2 ^ 31) (hi : i + 5 < n) (hd : 150 ≤ d) (hcl : c + 3 ≤ Rc) (hsl : s + 200 ≤ Rs) (hI : INV S im B) (nx : Nx E κ b B i c s) : V E κ 4 c s 849 [some (.ref b), some (.ref B), some (.ref (B + 81)), some (.int (nI i))] [] S im := by
  have hI0 := hI
  obtain ⟨⟨hC, hM, -⟩, ⟨⟨m, n7, hst⟩, h02⟩, -, ⟨hid, -⟩, h6, h7, -, h9⟩ := hI0
  have hok := ST_MOk hst
  refine z_aload_n (pc := 849) C dL_law_849 rfl ?_
  refine kL_102 (pc := 850) C dL_law_850 (c6_fee κ.2.1 E S im B hC (B + 107) (Nat.le_refl _) (im (B + 81 + 1)) m n7 hst ) (cl_K hC) (by omega) (Nat.le_of_ble_eq_true rfl) (by omega) (by omega) (fun v1 S1 im1 h1 => ?_)
  obtain ⟨rfl, sx, ⟨m', st1⟩, fr⟩ := h1
  obtain ⟨hM1, e1⟩ := INV_r1 hI sx fr
  have e10 := e1 (B + 81 + 1) (by omega) (by omega)
  refine z_aload_n (pc := 853) C dL_law_853 rfl ?_
  refine kL_105 (pc := 854) C dL_law_854 (m7_fee κ.2.1 E S1 im1 (B + 81) hM1 m n7 (im (B + 81 + 1)) e10 hok ) (ml_K hM1) (by omega) (Nat.le_of_ble_eq_true rfl) (by omega) (by omega) (fun v2 S2 im2 h2 => ?_)
  obtain ⟨rfl, rfl, hg, fp⟩ := h2
  refine z_icmp_eqT (pc := 857) C 1452 dL_law_857 (by decide) rfl ?_
  exact z_widen (by omega) (by omega) (nx _ _ (INV_F1 hI sx st1 fr hg fp (h02)))
set_option maxRecDepth 100000 in
set_option maxHeartbeats 4000000 in
theorem lw_fine (C : Cx E κ cL_law 4 RL ret d Rc Rs nm) (hX : va_X b n xs κ.2.2.2.2.1 E.2.2.1) (hb : b < E.2.1) (hn : n < 2 ^ 31) (hi : i + 5 < n) (hd : 150 ≤ d) (hcl : c + 3 ≤ Rc) (hsl : s + 200 ≤ Rs) (hI : INV S im B) (nx : Nx E κ b B i c s) : V E κ 4 c s 862 [some (.ref b), some (.ref B), some (.ref (B + 81)), some (.int (nI i))] [] S im := by
  have hI0 := hI
  obtain ⟨⟨hC, hM, -⟩, ⟨⟨m, n7, hst⟩, h02⟩, -, ⟨hid, -⟩, h6, h7, -, h9⟩ := hI0
  have hok := ST_MOk hst
  refine z_aload_n (pc := 862) C dL_law_862 rfl ?_
  refine z_aload_n (pc := 863) C dL_law_863 rfl ?_
  refine z_iload_n (pc := 864) C dL_law_864 rfl ?_
  refine z_iconstN (pc := 865) C 1 dL_law_865 ?_
  refine z_iaddN (pc := 866) C dL_law_866 ?_
  refine z_scx (pc := 867) C hX hb dL_law_867 (by omega) hn ?_
  refine kL_106 (pc := 868) C dL_law_868 (c6_fine κ.2.1 E S im B hC (B + 107) (Nat.le_refl _) (im (B + 81 + 1)) m n7 hst (xs (i + 1))) (cl_K hC) (by omega) (Nat.le_of_ble_eq_true rfl) (by omega) (by omega) (fun v1 S1 im1 h1 => ?_)
  obtain ⟨rfl, sx, ⟨m', st1⟩, fr⟩ := h1
  obtain ⟨hM1, e1⟩ := INV_r1 hI sx fr
  have e10 := e1 (B + 81 + 1) (by omega) (by omega)
  refine z_aload_n (pc := 871) C dL_law_871 rfl ?_
  refine z_aload_n (pc := 872) C dL_law_872 rfl ?_
  refine z_iload_n (pc := 873) C dL_law_873 rfl ?_
  refine z_iconstN (pc := 874) C 1 dL_law_874 ?_
  refine z_iaddN (pc := 875) C dL_law_875 ?_
  refine z_scx (pc := 876) C hX hb dL_law_876 (by omega) hn ?_
  refine kL_109 (pc := 877) C dL_law_877 (m7_fine κ.2.1 E S1 im1 (B + 81) hM1 m n7 (im (B + 81 + 1)) e10 hok (xs (i + 1))) (ml_K hM1) (by omega) (Nat.le_of_ble_eq_true rfl) (by omega) (by omega) (fun v2 S2 im2 h2 => ?_)
  obtain ⟨rfl, rfl, hg, fp⟩ := h2
  refine z_icmp_eqT (pc := 880) C 1452 dL_law_880 (by decide) rfl ?_
  exact z_widen (by omega) (by omega) (nx _ _ (INV_F1 hI sx st1 fr hg fp (h02)))
set_option maxRecDepth 100000 in
set_option maxHeartbeats 4000000 in
theorem lw_textTold (C : Cx E κ cL_law 4 RL ret d Rc Rs nm) (hX : va_X b n xs κ.2.2.2.2.1 E.2.2.1) (hb : b < E.2.1) (hn : n < 2 ^ 31) (hi : i + 5 < n) (hd : 150 ≤ d) (hcl : c + 3 ≤ Rc) (hsl : s + 200 ≤ Rs) (hI : INV S im B) (nx : Nx E κ b B i c s) : V E κ 4 c s 964 [some (.ref b), some (.ref B), some (.ref (B + 81)), some (.int (nI i))] [] S im := by
  have hI0 := hI
  obtain ⟨⟨hC, hM, -⟩, ⟨⟨m, n7, hst⟩, h02⟩, -, ⟨hid, -⟩, h6, h7, -, h9⟩ := hI0
  have hok := ST_MOk hst
  refine z_aload_n (pc := 964) C dL_law_964 rfl ?_
  refine z_aload_n (pc := 965) C dL_law_965 rfl ?_
  refine z_iload_n (pc := 966) C dL_law_966 rfl ?_
  refine z_iconstN (pc := 967) C 1 dL_law_967 ?_
  refine z_iaddN (pc := 968) C dL_law_968 ?_
  refine z_scx (pc := 969) C hX hb dL_law_969 (by omega) hn ?_
  refine z_aload_n (pc := 970) C dL_law_970 rfl ?_
  refine z_iload_n (pc := 971) C dL_law_971 rfl ?_
  refine z_iconstN (pc := 972) C 2 dL_law_972 ?_
  refine z_iaddN (pc := 973) C dL_law_973 ?_
  refine z_scx (pc := 974) C hX hb dL_law_974 (by omega) hn ?_
  refine kL_122 (pc := 975) C dL_law_975 (c6_textTold κ.2.1 E S im B hC (B + 107) (Nat.le_refl _) (im (B + 81 + 1)) m n7 hst (xs (i + 1)) (xs (i + 2))) (cl_K hC) (by omega) (Nat.le_of_ble_eq_true rfl) (by omega) (by omega) (fun v1 S1 im1 h1 => ?_)
  obtain ⟨rfl, sx, ⟨m', st1⟩, fr⟩ := h1
  obtain ⟨hM1, e1⟩ := INV_r1 hI sx fr
  have e10 := e1 (B + 81 + 1) (by omega) (by omega)
  refine z_aload_n (pc := 978) C dL_law_978 rfl ?_
  refine z_aload_n (pc := 979) C dL_law_979 rfl ?_
  refine z_iload_n (pc := 980) C dL_law_980 rfl ?_
  refine z_iconstN (pc := 981) C 1 dL_law_981 ?_
  refine z_iaddN (pc := 982) C dL_law_982 ?_
  refine z_scx (pc := 983) C hX hb dL_law_983 (by omega) hn ?_
  refine z_aload_n (pc := 984) C dL_law_984 rfl ?_
  refine z_iload_n (pc := 985) C dL_law_985 rfl ?_
  refine z_iconstN (pc := 986) C 2 dL_law_986 ?_
  refine z_iaddN (pc := 987) C dL_law_987 ?_
  refine z_scx (pc := 988) C hX hb dL_law_988 (by omega) hn ?_
  refine kL_125 (pc := 989) C dL_law_989 (m7_textTold κ.2.1 E S1 im1 (B + 81) hM1 m n7 (im (B + 81 + 1)) e10 hok (xs (i + 1)) (xs (i + 2))) (ml_K hM1) (by omega) (Nat.le_of_ble_eq_true rfl) (by omega) (by omega) (fun v2 S2 im2 h2 => ?_)
  obtain ⟨rfl, rfl, hg, fp⟩ := h2
  refine z_icmp_eqT (pc := 992) C 1452 dL_law_992 (by decide) rfl ?_
  exact z_widen (by omega) (by omega) (nx _ _ (INV_F1 hI sx st1 fr hg fp (h02)))
set_option maxRecDepth 100000 in
set_option maxHeartbeats 4000000 in
theorem lw_why (C : Cx E κ cL_law 4 RL ret d Rc Rs nm) (hX : va_X b n xs κ.2.2.2.2.1 E.2.2.1) (hb : b < E.2.1) (hn : n < 2 ^ 31) (hi : i + 5 < n) (hd : 150 ≤ d) (hcl : c + 3 ≤ Rc) (hsl : s + 200 ≤ Rs) (hI : INV S im B) (nx : Nx E κ b B i c s) : V E κ 4 c s 997 [some (.ref b), some (.ref B), some (.ref (B + 81)), some (.int (nI i))] [] S im := by
  have hI0 := hI
  obtain ⟨⟨hC, hM, -⟩, ⟨⟨m, n7, hst⟩, h02⟩, -, ⟨hid, -⟩, h6, h7, -, h9⟩ := hI0
  have hok := ST_MOk hst
  refine z_aload_n (pc := 997) C dL_law_997 rfl ?_
  refine z_aload_n (pc := 998) C dL_law_998 rfl ?_
  refine z_iload_n (pc := 999) C dL_law_999 rfl ?_
  refine z_iconstN (pc := 1000) C 1 dL_law_1000 ?_
  refine z_iaddN (pc := 1001) C dL_law_1001 ?_
  refine z_scx (pc := 1002) C hX hb dL_law_1002 (by omega) hn ?_
  refine kL_126 (pc := 1003) C dL_law_1003 (c6_why κ.2.1 E S im B hC (B + 107) (Nat.le_refl _) (im (B + 81 + 1)) m n7 hst (xs (i + 1))) (cl_K hC) (by omega) (Nat.le_of_ble_eq_true rfl) (by omega) (by omega) (fun v1 S1 im1 h1 => ?_)
  obtain ⟨rfl, sx, ⟨m', st1⟩, fr⟩ := h1
  obtain ⟨hM1, e1⟩ := INV_r1 hI sx fr
  have e10 := e1 (B + 81 + 1) (by omega) (by omega)
  refine z_aload_n (pc := 1006) C dL_law_1006 rfl ?_
  refine z_aload_n (pc := 1007) C dL_law_1007 rfl ?_
  refine z_iload_n (pc := 1008) C dL_law_1008 rfl ?_
  refine z_iconstN (pc := 1009) C 1 dL_law_1009 ?_
  refine z_iaddN (pc := 1010) C dL_law_1010 ?_
  refine z_scx (pc := 1011) C hX hb dL_law_1011 (by omega) hn ?_
  refine kL_129 (pc := 1012) C dL_law_1012 (m7_why κ.2.1 E S1 im1 (B + 81) hM1 m n7 (im (B + 81 + 1)) e10 hok (xs (i + 1))) (ml_K hM1) (by omega) (Nat.le_of_ble_eq_true rfl) (by omega) (by omega) (fun v2 S2 im2 h2 => ?_)
  obtain ⟨rfl, rfl, hg, fp⟩ := h2
  refine z_icmp_eqT (pc := 1015) C 1452 dL_law_1015 (by decide) rfl ?_
  exact z_widen (by omega) (by omega) (nx _ _ (INV_F1 hI sx st1 fr hg fp (h02)))
set_option maxRecDepth 100000 in
set_option maxHeartbeats 4000000 in
theorem lw_count (C : Cx E κ cL_law 4 RL ret d Rc Rs nm) (hX : va_X b n xs κ.2.2.2.2.1 E.2.2.1) (hb : b < E.2.1) (hn : n < 2 ^ 31) (hi : i + 5 < n) (hd : 150 ≤ d) (hcl : c + 3 ≤ Rc) (hsl : s + 200 ≤ Rs) (hI : INV S im B) (nx : Nx E κ b B i c s) : V E κ 4 c s 1429 [some (.ref b), some (.ref B), some (.ref (B + 81)), some (.int (nI i))] [] S im := by
  have hI0 := hI
  obtain ⟨⟨hC, hM, -⟩, ⟨⟨m, n7, hst⟩, h02⟩, -, ⟨hid, -⟩, h6, h7, -, h9⟩ := hI0
  have hok := ST_MOk hst
  refine z_aload_n (pc := 1429) C dL_law_1429 rfl ?_
  refine z_aload_n (pc := 1430) C dL_law_1430 rfl ?_
  refine z_iload_n (pc := 1431) C dL_law_1431 rfl ?_
  refine z_iconstN (pc := 1432) C 1 dL_law_1432 ?_
  refine z_iaddN (pc := 1433) C dL_law_1433 ?_
  refine z_scx (pc := 1434) C hX hb dL_law_1434 (by omega) hn ?_
  refine kL_183 (pc := 1435) C dL_law_1435 (c6_count κ.2.1 E S im B hC (B + 107) (Nat.le_refl _) (im (B + 81 + 1)) m n7 hst (xs (i + 1))) (cl_K hC) (by omega) (Nat.le_of_ble_eq_true rfl) (by omega) (by omega) (fun v1 S1 im1 h1 => ?_)
  obtain ⟨rfl, sx, ⟨m', st1⟩, fr⟩ := h1
  obtain ⟨hM1, e1⟩ := INV_r1 hI sx fr
  have e10 := e1 (B + 81 + 1) (by omega) (by omega)
  refine z_aload_n (pc := 1438) C dL_law_1438 rfl ?_
  refine z_aload_n (pc := 1439) C dL_law_1439 rfl ?_
  refine z_iload_n (pc := 1440) C dL_law_1440 rfl ?_
  refine z_iconstN (pc := 1441) C 1 dL_law_1441 ?_
  refine z_iaddN (pc := 1442) C dL_law_1442 ?_
  refine z_scx (pc := 1443) C hX hb dL_law_1443 (by omega) hn ?_
  refine kL_186 (pc := 1444) C dL_law_1444 (m7_count κ.2.1 E S1 im1 (B + 81) hM1 (xs (i + 1))) (ml_K hM1) (by omega) (Nat.le_of_ble_eq_true rfl) (by omega) (by omega) (fun v2 S2 im2 h2 => ?_)
  obtain ⟨rfl, rfl, rfl⟩ := h2
  obtain ⟨⟨T, hT, h61, h62⟩, -⟩ := h6
  obtain ⟨⟨wt, hw, h91, h92⟩, -⟩ := h9
  refine z_icmp_eqT (pc := 1447) C 1452 dL_law_1447 (by decide) (by rw [e10, e1 (B + 81) (by omega) (by omega), h61, h62, h91, h92]) ?_
  exact z_widen (by omega) (by omega) (nx _ _ (INV_F1 hI sx st1 fr e10 frP.rf0 (h02)))
set_option maxRecDepth 100000 in
set_option maxHeartbeats 4000000 in
theorem lw_oiled (C : Cx E κ cL_law 4 RL ret d Rc Rs nm) (hX : va_X b n xs κ.2.2.2.2.1 E.2.2.1) (hb : b < E.2.1) (hn : n < 2 ^ 31) (hi : i + 5 < n) (hd : 150 ≤ d) (hcl : c + 3 ≤ Rc) (hsl : s + 200 ≤ Rs) (hI : INV S im B) (nx : Nx E κ b B i c s) : V E κ 4 c s 806 [some (.ref b), some (.ref B), some (.ref (B + 81)), some (.int (nI i))] [] S im := by
  have hI0 := hI
  obtain ⟨⟨hC, hM, -⟩, ⟨⟨m, n7, hst⟩, h02⟩, -, ⟨hid, -⟩, h6, h7, -, h9⟩ := hI0
  have hok := ST_MOk hst
  refine z_aload_n (pc := 806) C dL_law_806 rfl ?_
  refine z_aload_n (pc := 807) C dL_law_807 rfl ?_
  refine z_iload_n (pc := 808) C dL_law_808 rfl ?_
  refine z_iconstN (pc := 809) C 1 dL_law_809 ?_
  refine z_iaddN (pc := 810) C dL_law_810 ?_
  refine z_scx (pc := 811) C hX hb dL_law_811 (by omega) hn ?_
  refine z_aload_n (pc := 812) C dL_law_812 rfl ?_
  refine z_iload_n (pc := 813) C dL_law_813 rfl ?_
  refine z_iconstN (pc := 814) C 2 dL_law_814 ?_
  refine z_iaddN (pc := 815) C dL_law_815 ?_
  refine z_scx (pc := 816) C hX hb dL_law_816 (by omega) hn ?_
  refine z_aload_n (pc := 817) C dL_law_817 rfl ?_
  refine z_iload_n (pc := 818) C dL_law_818 rfl ?_
  refine z_iconstN (pc := 819) C 3 dL_law_819 ?_
  refine z_iaddN (pc := 820) C dL_law_820 ?_
  refine z_scx (pc := 821) C hX hb dL_law_821 (by omega) hn ?_
  refine kL_98 (pc := 822) C dL_law_822 (c6_oiled κ.2.1 E S im B hC (B + 107) (Nat.le_refl _) (im (B + 81 + 1)) m n7 hst (im (B + 81 + 17)) (im (B + 81 + 18)) (im (B + 81 + 19)) h7 (xs (i + 1)) (xs (i + 2)) (xs (i + 3))) (cl_K hC) (by omega) (Nat.le_of_ble_eq_true rfl) (by omega) (by omega) (fun v1 S1 im1 h1 => ?_)
  obtain ⟨rfl, sx, ⟨m', st1⟩, fr⟩ := h1
  obtain ⟨hM1, e1⟩ := INV_r1 hI sx fr
  have e10 := e1 (B + 81 + 1) (by omega) (by omega)
  have e17 := e1 (B + 81 + 17) (by omega) (by omega)
  have e18 := e1 (B + 81 + 18) (by omega) (by omega)
  have e19 := e1 (B + 81 + 19) (by omega) (by omega)
  have hso : ShOk (B + 81) im1 := by unfold ShOk; rw [e17, e18]; exact I_ShOk h7
  refine z_aload_n (pc := 825) C dL_law_825 rfl ?_
  refine z_aload_n (pc := 826) C dL_law_826 rfl ?_
  refine z_iload_n (pc := 827) C dL_law_827 rfl ?_
  refine z_iconstN (pc := 828) C 1 dL_law_828 ?_
  refine z_iaddN (pc := 829) C dL_law_829 ?_
  refine z_scx (pc := 830) C hX hb dL_law_830 (by omega) hn ?_
  refine z_aload_n (pc := 831) C dL_law_831 rfl ?_
  refine z_iload_n (pc := 832) C dL_law_832 rfl ?_
  refine z_iconstN (pc := 833) C 2 dL_law_833 ?_
  refine z_iaddN (pc := 834) C dL_law_834 ?_
  refine z_scx (pc := 835) C hX hb dL_law_835 (by omega) hn ?_
  refine z_aload_n (pc := 836) C dL_law_836 rfl ?_
  refine z_iload_n (pc := 837) C dL_law_837 rfl ?_
  refine z_iconstN (pc := 838) C 3 dL_law_838 ?_
  refine z_iaddN (pc := 839) C dL_law_839 ?_
  refine z_scx (pc := 840) C hX hb dL_law_840 (by omega) hn ?_
  refine kL_101 (pc := 841) C dL_law_841 (m7_oiled κ.2.1 E S1 im1 (B + 81) hM1 m n7 (im (B + 81 + 1)) e10 hok (by rw [e1 (B + 81) (by omega) (by omega)]; exact hid) hso (xs (i + 1)) (xs (i + 2)) (xs (i + 3))) (ml_K hM1) (by omega) (Nat.le_of_ble_eq_true rfl) (by omega) (by omega) (fun v2 S2 im2 h2 => ?_)
  rw [e17, e18, e19] at h2
  obtain ⟨rfl, rfl, hg, fp⟩ := h2
  refine z_icmp_eqT (pc := 844) C 1452 dL_law_844 (by decide) rfl ?_
  exact z_widen (by omega) (by omega) (nx _ _ (INV_F1 hI sx st1 fr hg fp (h02)))
set_option maxRecDepth 100000 in
set_option maxHeartbeats 4000000 in
theorem lw_pour (C : Cx E κ cL_law 4 RL ret d Rc Rs nm) (hX : va_X b n xs κ.2.2.2.2.1 E.2.2.1) (hb : b < E.2.1) (hn : n < 2 ^ 31) (hi : i + 5 < n) (hd : 150 ≤ d) (hcl : c + 3 ≤ Rc) (hsl : s + 200 ≤ Rs) (hI : INV S im B) (nx : Nx E κ b B i c s) : V E κ 4 c s 1106 [some (.ref b), some (.ref B), some (.ref (B + 81)), some (.int (nI i))] [] S im := by
  have hI0 := hI
  obtain ⟨⟨hC, hM, -⟩, ⟨⟨m, n7, hst⟩, h02⟩, -, ⟨hid, -⟩, h6, h7, -, h9⟩ := hI0
  have hok := ST_MOk hst
  refine z_aload_n (pc := 1106) C dL_law_1106 rfl ?_
  refine z_aload_n (pc := 1107) C dL_law_1107 rfl ?_
  refine z_iload_n (pc := 1108) C dL_law_1108 rfl ?_
  refine z_iconstN (pc := 1109) C 1 dL_law_1109 ?_
  refine z_iaddN (pc := 1110) C dL_law_1110 ?_
  refine z_scx (pc := 1111) C hX hb dL_law_1111 (by omega) hn ?_
  refine kL_138 (pc := 1112) C dL_law_1112 (c6_pour κ.2.1 E S im B hC (B + 107) (Nat.le_refl _) (im (B + 81 + 1)) m n7 hst (im (B + 81 + 17)) (im (B + 81 + 18)) (im (B + 81 + 19)) h7 (xs (i + 1))) (cl_K hC) (by omega) (Nat.le_of_ble_eq_true rfl) (by omega) (by omega) (fun v1 S1 im1 h1 => ?_)
  obtain ⟨rfl, sx, ⟨m', st1⟩, fr⟩ := h1
  obtain ⟨hM1, e1⟩ := INV_r1 hI sx fr
  have e10 := e1 (B + 81 + 1) (by omega) (by omega)
  have e17 := e1 (B + 81 + 17) (by omega) (by omega)
  have e18 := e1 (B + 81 + 18) (by omega) (by omega)
  have e19 := e1 (B + 81 + 19) (by omega) (by omega)
  have hso : ShOk (B + 81) im1 := by unfold ShOk; rw [e17, e18]; exact I_ShOk h7
  refine z_aload_n (pc := 1115) C dL_law_1115 rfl ?_
  refine z_aload_n (pc := 1116) C dL_law_1116 rfl ?_
  refine z_iload_n (pc := 1117) C dL_law_1117 rfl ?_
  refine z_iconstN (pc := 1118) C 1 dL_law_1118 ?_
  refine z_iaddN (pc := 1119) C dL_law_1119 ?_
  refine z_scx (pc := 1120) C hX hb dL_law_1120 (by omega) hn ?_
  refine kL_141 (pc := 1121) C dL_law_1121 (m7_pour κ.2.1 E S1 im1 (B + 81) hM1 m n7 (im (B + 81 + 1)) e10 hok hso (xs (i + 1))) (ml_K hM1) (by omega) (Nat.le_of_ble_eq_true rfl) (by omega) (by omega) (fun v2 S2 im2 h2 => ?_)
  rw [e17, e18, e19] at h2
  obtain ⟨rfl, rfl, hg, fp⟩ := h2
  refine z_icmp_eqT (pc := 1124) C 1452 dL_law_1124 (by decide) rfl ?_
  exact z_widen (by omega) (by omega) (nx _ _ (INV_F1 hI sx st1 fr hg fp (by rw [f2_pour]; exact h02)))
set_option maxRecDepth 100000 in
set_option maxHeartbeats 4000000 in
theorem lw_reads (C : Cx E κ cL_law 4 RL ret d Rc Rs nm) (hX : va_X b n xs κ.2.2.2.2.1 E.2.2.1) (hb : b < E.2.1) (hn : n < 2 ^ 31) (hi : i + 5 < n) (hd : 150 ≤ d) (hcl : c + 3 ≤ Rc) (hsl : s + 200 ≤ Rs) (hI : INV S im B) (nx : Nx E κ b B i c s) : V E κ 4 c s 1129 [some (.ref b), some (.ref B), some (.ref (B + 81)), some (.int (nI i))] [] S im := by
  have hI0 := hI
  obtain ⟨⟨hC, hM, -⟩, ⟨⟨m, n7, hst⟩, h02⟩, -, ⟨hid, -⟩, h6, h7, -, h9⟩ := hI0
  have hok := ST_MOk hst
  refine z_aload_n (pc := 1129) C dL_law_1129 rfl ?_
  refine z_aload_n (pc := 1130) C dL_law_1130 rfl ?_
  refine z_iload_n (pc := 1131) C dL_law_1131 rfl ?_
  refine z_iconstN (pc := 1132) C 1 dL_law_1132 ?_
  refine z_iaddN (pc := 1133) C dL_law_1133 ?_
  refine z_scx (pc := 1134) C hX hb dL_law_1134 (by omega) hn ?_
  refine kL_142 (pc := 1135) C dL_law_1135 (c6_reads κ.2.1 E S im B hC (B + 107) (Nat.le_refl _) (im (B + 81 + 1)) m n7 hst (im (B + 81 + 17)) (im (B + 81 + 18)) (im (B + 81 + 19)) h7 (xs (i + 1))) (cl_K hC) (by omega) (Nat.le_of_ble_eq_true rfl) (by omega) (by omega) (fun v1 S1 im1 h1 => ?_)
  obtain ⟨rfl, sx, ⟨m', st1⟩, fr⟩ := h1
  obtain ⟨hM1, e1⟩ := INV_r1 hI sx fr
  have e10 := e1 (B + 81 + 1) (by omega) (by omega)
  have e17 := e1 (B + 81 + 17) (by omega) (by omega)
  have e18 := e1 (B + 81 + 18) (by omega) (by omega)
  have e19 := e1 (B + 81 + 19) (by omega) (by omega)
  have hso : ShOk (B + 81) im1 := by unfold ShOk; rw [e17, e18]; exact I_ShOk h7
  refine z_aload_n (pc := 1138) C dL_law_1138 rfl ?_
  refine z_aload_n (pc := 1139) C dL_law_1139 rfl ?_
  refine z_iload_n (pc := 1140) C dL_law_1140 rfl ?_
  refine z_iconstN (pc := 1141) C 1 dL_law_1141 ?_
  refine z_iaddN (pc := 1142) C dL_law_1142 ?_
  refine z_scx (pc := 1143) C hX hb dL_law_1143 (by omega) hn ?_
  refine kL_145 (pc := 1144) C dL_law_1144 (m7_reads κ.2.1 E S1 im1 (B + 81) hM1 m n7 (im (B + 81 + 1)) e10 hok hso (xs (i + 1))) (ml_K hM1) (by omega) (Nat.le_of_ble_eq_true rfl) (by omega) (by omega) (fun v2 S2 im2 h2 => ?_)
  rw [e17, e18, e19] at h2
  obtain ⟨rfl, rfl, hg, fp⟩ := h2
  refine z_icmp_eqT (pc := 1147) C 1452 dL_law_1147 (by decide) rfl ?_
  exact z_widen (by omega) (by omega) (nx _ _ (INV_F1 hI sx st1 fr hg fp (h02)))
end LW
