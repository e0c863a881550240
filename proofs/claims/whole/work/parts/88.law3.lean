/-! the law: sheets, slots, the tape, what was told -/
theorem INV_q {S : Sx} {im im2 : Mem} {B : Nat} (h : INV S im B) (e : ∀ a, (B + 1 ≤ a ∧ a < B + 31) ∨ a = B + 82 ∨ a = B + 83 ∨ a = B + 91 ∨ a = B + 92 ∨ B + 107 ≤ a → im2 a = im a) (b3 : im2 B 3 = im B 3) (m3 : im2 (B + 81) 3 = im (B + 81) 3) (m4 : im2 (B + 81) 4 = im (B + 81) 4) (h6 : I_tp im2 B) (h7 : I_sh im2 B) (h8 : I_sl im2 B) (h9 : I_wt im2 B) : INV S im2 B := by
  obtain ⟨h1, ⟨⟨n, n7, hst⟩, h02⟩, h3, ⟨h4, h5⟩, -⟩ := h
  have e82 := e (B + 81 + 1) (by omega)
  exact ⟨h1, ⟨⟨n, n7, by rw [e82]; exact ST_fr hst (fun a q1 q2 _ => e a (by omega)) (fun a q1 _ => e a (by omega))⟩, by rw [e82]; exact h02⟩, I_img_fr h3 m3 b3 (e _ (by omega)) (Or.inl rfl) (fun a q1 q2 => e a (by omega)) (fun a q1 _ => e a (by omega)), ⟨by rw [m4]; exact h4, KyOk_fr h5 (e _ (by omega)) (e _ (by omega))⟩, h6, h7, h8, h9⟩
theorem INV_trim {S : Sx} {im : Mem} {B T : Nat} {x : Int32} (h : INV S im B) (hT : T ≤ 96) (hc : nI 0 ≤ x ∧ x ≤ nI T) : INV S (up2 (up2 im (B + 46) 1 x) (B + 81) 11 x) B := by
  obtain ⟨k, -, hk, e⟩ := (rng (by decide) (by omega)).mp hc
  have q : ∀ a, a ≠ B + 46 → a ≠ B + 81 → up2 (up2 im (B + 46) 1 x) (B + 81) 11 x a = im a := fun a q1 q2 => by rw [up2_n _ _ _ q2, up2_n _ _ _ q1]
  have qM : ∀ j, j ≠ 11 → up2 (up2 im (B + 46) 1 x) (B + 81) 11 x (B + 81) j = im (B + 81) j := fun j hj => by rw [up2_at, if_neg hj, up2_n _ _ _ (by omega)]
  have hB := q B (by omega) (by omega)
  refine INV_q h (fun a _ => q a (by omega) (by omega)) (by rw [hB]) (qM 3 (by decide)) (qM 4 (by decide)) ⟨⟨k, by omega, by rw [up2_at, if_pos rfl]; exact e, by rw [up2_n _ _ _ (by omega), up2_at, if_pos rfl]; exact e⟩, by rw [q _ (by omega) (by omega), q _ (by omega) (by omega)]; exact h.2.2.2.2.1.2⟩ (I_sh_fr h.2.2.2.2.2.1 (fun a _ => q a (by omega) (by omega))) (I_sl_fr h.2.2.2.2.2.2.1 (fun a _ => q a (by omega) (by omega))) (I_wt_fr h.2.2.2.2.2.2.2 (fun a _ => q a (by omega) (by omega)) (qM 37 (by decide)) (by rw [hB]))
theorem INV_tell {S : Sx} {im : Mem} {B wt : Nat} {x : Int32} (h : INV S im B) (hw : wt < 60) : INV S (up2 (up2 (up2 (up2 im (B + 51) wt x) B 8 (nI (wt + 1))) (B + 81 + 25) wt x) (B + 81) 37 (nI (wt + 1))) B := by
  generalize hg : up2 (up2 (up2 (up2 im (B + 51) wt x) B 8 (nI (wt + 1))) (B + 81 + 25) wt x) (B + 81) 37 (nI (wt + 1)) = im2
  have q : ∀ a, a ≠ B + 51 → a ≠ B → a ≠ B + 81 + 25 → a ≠ B + 81 → im2 a = im a := fun a q1 q2 q3 q4 => by rw [← hg, up2_n _ _ _ q4, up2_n _ _ _ q3, up2_n _ _ _ q2, up2_n _ _ _ q1]
  have qM : ∀ j, j ≠ 37 → im2 (B + 81) j = im (B + 81) j := fun j hj => by rw [← hg, up2_at, if_neg hj, up2_n _ _ _ (by omega), up2_n _ _ _ (by omega), up2_n _ _ _ (by omega)]
  have qB : ∀ j, j ≠ 8 → im2 B j = im B j := fun j hj => by rw [← hg, up2_n _ _ _ (by omega), up2_n _ _ _ (by omega), up2_at, if_neg hj, up2_n _ _ _ (by omega)]
  have hr := h.2.2.2.2.2.2.2.2
  refine INV_q h (fun a _ => q a (by omega) (by omega) (by omega) (by omega)) (qB 3 (by decide)) (qM 3 (by decide)) (qM 4 (by decide)) (I_tp_fr h.2.2.2.2.1 (fun a _ => q a (by omega) (by omega) (by omega) (by omega)) (qM 11 (by decide))) (I_sh_fr h.2.2.2.2.2.1 (fun a _ => q a (by omega) (by omega) (by omega) (by omega))) (I_sl_fr h.2.2.2.2.2.2.1 (fun a _ => q a (by omega) (by omega) (by omega) (by omega))) ⟨⟨wt + 1, by omega, by rw [← hg, up2_at, if_pos rfl], by rw [← hg, up2_n _ _ _ (by omega), up2_n _ _ _ (by omega), up2_at, if_pos rfl]⟩, ?_⟩
  rw [← hg, up2_n _ _ _ (by omega), up2_n _ _ _ (by omega), up2_n _ _ _ (by omega), up2_s, up2_n _ _ _ (by omega), up2_s, up2_n _ _ _ (by omega), up2_n _ _ _ (by omega), hr]
theorem INV_feed {S : Sx} {im im1 im2 : Mem} {B tp : Nat} {a b c : Int32} (h : INV S im B) (g1 : g_feedC B im tp a b c im1) (g2 : g_feed (B + 81) im1 tp a b c im2) : INV S im2 B := by
  unfold g_feedC at g1
  unfold g_feed at g2
  by_cases ht : tp + 12 ≤ 96
  · rw [if_pos ht] at g1 g2
    obtain ⟨r1, s1, f1⟩ := g1
    obtain ⟨r2, s2, f2⟩ := g2
    have q : ∀ a, a ≠ B + 46 → a ≠ B + 47 → a ≠ B + 81 → a ≠ B + 81 + 9 → im2 a = im a := fun a q1 q2 q3 q4 => (f2 a q3 q4).trans (f1 a q1 q2)
    have qM : ∀ j, j ≠ 11 → im2 (B + 81) j = im (B + 81) j := fun j hj => by rw [s2, upd_n _ _ hj, f1 _ (by omega) (by omega)]
    have hB := q B (by omega) (by omega) (by omega) (by omega)
    refine INV_q h (fun a _ => q a (by omega) (by omega) (by omega) (by omega)) (by rw [hB]) (qM 3 (by decide)) (qM 4 (by decide)) ⟨⟨tp + 12, ht, by rw [s2, upd_s], by rw [f2 _ (by omega) (by omega), s1, upd_s]⟩, ?_⟩ (I_sh_fr h.2.2.2.2.2.1 (fun a _ => q a (by omega) (by omega) (by omega) (by omega))) (I_sl_fr h.2.2.2.2.2.2.1 (fun a _ => q a (by omega) (by omega) (by omega) (by omega))) (I_wt_fr h.2.2.2.2.2.2.2 (fun a _ => q a (by omega) (by omega) (by omega) (by omega)) (qM 37 (by decide)) (by rw [hB]))
    funext j
    rw [f2 _ (by omega) (by omega), r1, r2, f1 (B + 81 + 9) (by omega) (by omega), h.2.2.2.2.1.2]
  · rw [if_neg ht] at g1 g2
    rw [g2, g1]
    exact h
/-- only sheets have changed -/
theorem INV_sh {S : Sx} {im im2 : Mem} {B : Nat} (h : INV S im B) (q : ∀ a, ¬ (B + 53 ≤ a ∧ a < B + 61) → a ≠ B + 98 → a ≠ B + 99 → a ≠ B + 100 → a ≠ B + 105 → im2 a = im a) (h7 : I_sh im2 B) : INV S im2 B := by
  have hB := q B (by omega) (by omega) (by omega) (by omega) (by omega)
  have hM := q (B + 81) (by omega) (by omega) (by omega) (by omega) (by omega)
  exact INV_q h (fun a _ => q a (by omega) (by omega) (by omega) (by omega) (by omega)) (by rw [hB]) (by rw [hM]) (by rw [hM]) (I_tp_fr h.2.2.2.2.1 (fun a _ => q a (by omega) (by omega) (by omega) (by omega) (by omega)) (by rw [hM])) h7 (I_sl_fr h.2.2.2.2.2.2.1 (fun a _ => q a (by omega) (by omega) (by omega) (by omega) (by omega))) (I_wt_fr h.2.2.2.2.2.2.2 (fun a _ => q a (by omega) (by omega) (by omega) (by omega) (by omega)) (by rw [hM]) (by rw [hB]))
theorem INV_clr {S : Sx} {im im1 im2 : Mem} {B s z : Nat} {k : Int32} (h : INV S im B) (hs : s < 4) (hz : z ≤ 24) (hk : k = -1 ∨ k = 0 ∨ k = 1) (g1 : cC B im s k (nI z) im1) (g2 : shC (B + 81) im1 s k (nI z) im2) : INV S im2 B := by
  obtain ⟨a1, a2, a3⟩ := g1
  obtain ⟨b1, b2, b3, b4⟩ := g2
  have e17 := a3 (B + 81 + 17) (by omega) (by omega)
  have e18 := a3 (B + 81 + 18) (by omega) (by omega)
  have e19 := a3 (B + 81 + 19) (by omega) (by omega)
  refine INV_sh h (fun a q1 q2 q3 q4 _ => (b4 a (by omega) (by omega) (by omega)).trans (a3 a (by omega) (by omega))) ?_
  intro s' hs'
  rw [b1, b2, e17, e18]
  have o := h.2.2.2.2.2.1 s' hs'
  rw [b4 (B + 53 + 2 * s') (by omega) (by omega) (by omega), b4 (B + 53 + 2 * s' + 1) (by omega) (by omega) (by omega)]
  by_cases e : s' = s
  · subst e
    rw [a1, upd_s, upd_s, upd_n _ _ (by omega), upd_s, upd_s]
    have c0 : ∀ j, j < 24 → im2 (B + 81 + 19) (24 * s' + j) = 0 := fun j hj => by rw [b3, if_pos (by omega)]
    exact ⟨⟨rfl, rfl, fun j hj => by rw [c0 j hj, a2, if_pos hj]⟩, ⟨z, hz, rfl⟩, hk, fun j hj => Or.inr (by rw [c0 j hj]; exact ⟨by decide, by decide⟩)⟩
  · rw [upd_n _ _ e, upd_n _ _ e, a3 _ (by omega) (by omega), a3 _ (by omega) (by omega)]
    have c0 : ∀ j, j < 24 → im2 (B + 81 + 19) (24 * s' + j) = im (B + 81 + 19) (24 * s' + j) := fun j hj => by rw [b3, if_neg (by omega), e19]
    exact ⟨⟨o.1.1, o.1.2.1, fun j hj => by rw [c0 j hj]; exact o.1.2.2 j hj⟩, o.2.1, o.2.2.1, fun j hj => by rw [c0 j hj]; exact o.2.2.2 j hj⟩
theorem k_three {k : Int32} (h : -1 ≤ k ∧ k ≤ nI 1) : k = -1 ∨ k = 0 ∨ k = 1 := by
  obtain ⟨h1, h2⟩ := h
  rw [Int32.le_iff_toInt_le] at h1 h2
  rw [show (-1 : Int32).toInt = -1 by decide] at h1
  rw [nI_toInt (by decide)] at h2
  rcases (show k.toInt = -1 ∨ k.toInt = 0 ∨ k.toInt = 1 by omega) with e | e | e
  · exact Or.inl (Int32.toInt_inj.mp (e.trans (by decide)))
  · exact Or.inr (Or.inl (Int32.toInt_inj.mp (e.trans (by decide))))
  · exact Or.inr (Or.inr (Int32.toInt_inj.mp (e.trans (by decide))))
theorem INV_sheet {S : Sx} {im im1 im2 : Mem} {B : Nat} {x k w : Int32} (h : INV S im B) (g1 : g_sheetC B im x k w im1) (g2 : g_sheet (B + 81) im1 x k w im2) : INV S im2 B := by
  unfold g_sheetC at g1
  unfold g_sheet at g2
  have none : im1 = im → im2 = im1 → INV S im2 B := fun e1 e2 => by rw [e2, e1]; exact h
  by_cases c1 : isSh x
  · rw [if_pos c1] at g1 g2
    by_cases c2 : -1 ≤ k ∧ k ≤ nI 1
    · rw [if_pos c2] at g1 g2
      obtain ⟨s, -, hs, rfl⟩ := (rng (by decide) (by decide)).mp c1
      rw [nI_clamp (by omega)] at g1 g2
      by_cases c3 : k < 0
      · rw [if_pos c3] at g1 g2
        have e : r_sheet (nI s) k w = nI 0 := by rw [r_sheet, if_pos c1, if_pos c2, if_pos c3]
        rw [e] at g1 g2
        exact INV_clr h (by omega) (by decide) (k_three c2) g1 g2
      · rw [if_neg c3] at g1 g2
        by_cases c4 : w ≤ nI 24
        · rw [if_pos c4] at g1 g2
          by_cases c5 : 0 ≤ w
          · rw [if_pos c5] at g1 g2
            obtain ⟨z, -, hz, rfl⟩ := (rng (a := 0) (b := 24) (by decide) (by decide)).mp ⟨c5, c4⟩
            have e : r_sheet (nI s) k (nI z) = nI z := by rw [r_sheet, if_pos c1, if_pos c2, if_neg c3, if_pos c4, if_pos c5]
            rw [e] at g1 g2
            exact INV_clr h (by omega) hz (k_three c2) g1 g2
          · rw [if_neg c5] at g1 g2; exact none g1 g2
        · rw [if_neg c4] at g1 g2; exact none g1 g2
    · rw [if_neg c2] at g1 g2; exact none g1 g2
  · rw [if_neg c1] at g1 g2; exact none g1 g2
section LW
variable {E : Ex} {κ : Kx} {ret : Option FieldType} {d Rc Rs : Nat} {nm : String} {b n i B c s : Nat} {xs : Nat → Int32} {S : Sx} {im : Mem}
set_option maxRecDepth 100000 in
set_option maxHeartbeats 4000000 in
theorem lw_ask (C : Cx E κ cL_law 4 RL ret d Rc Rs nm) (hX : va_X b n xs κ.2.2.2.2.1 E.2.2.1) (hb : b < E.2.1) (hn : n < 2 ^ 31) (hi : i + 5 < n) (hd : 150 ≤ d) (hcl : c + 3 ≤ Rc) (hsl : s + 200 ≤ Rs) (hI : INV S im B) (nx : Nx E κ b B i c s) : V E κ 4 c s 1258 [some (.ref b), some (.ref B), some (.ref (B + 81)), some (.int (nI i))] [] S im := by
  have hI0 := hI
  obtain ⟨⟨hC, hM, -⟩, ⟨⟨m, n7, hst⟩, h02⟩, -, ⟨hid, -⟩, ⟨⟨T, hT, hTm, hTc⟩, -⟩, h7, h8, ⟨⟨wt, hw, hwm, hwc⟩, -⟩⟩ := hI0
  have hok := ST_MOk hst
  have hM1 := hM
  refine z_aload_n (pc := 1258) C dL_law_1258 rfl ?_
  refine z_aload_n (pc := 1259) C dL_law_1259 rfl ?_
  refine z_iload_n (pc := 1260) C dL_law_1260 rfl ?_
  refine z_iconstN (pc := 1261) C 1 dL_law_1261 ?_
  refine z_iaddN (pc := 1262) C dL_law_1262 ?_
  refine z_scx (pc := 1263) C hX hb dL_law_1263 (by omega) hn ?_
  refine z_aload_n (pc := 1264) C dL_law_1264 rfl ?_
  refine z_iload_n (pc := 1265) C dL_law_1265 rfl ?_
  refine z_iconstN (pc := 1266) C 2 dL_law_1266 ?_
  refine z_iaddN (pc := 1267) C dL_law_1267 ?_
  refine z_scx (pc := 1268) C hX hb dL_law_1268 (by omega) hn ?_
  refine kL_155 (pc := 1269) C dL_law_1269 (c6_ask κ.2.1 E S im B hC (im (B + 81 + 20)) (im (B + 81 + 21)) (im (B + 81 + 22)) (im (B + 81 + 23)) h8 (xs (i + 1)) (xs (i + 2))) (cl_K hC) (by omega) (Nat.le_of_ble_eq_true rfl) (by omega) (by omega) (fun v1 S1 im1 h1 => ?_)
  obtain ⟨rfl, rfl, rfl⟩ := h1
  refine z_aload_n (pc := 1272) C dL_law_1272 rfl ?_
  refine z_aload_n (pc := 1273) C dL_law_1273 rfl ?_
  refine z_iload_n (pc := 1274) C dL_law_1274 rfl ?_
  refine z_iconstN (pc := 1275) C 1 dL_law_1275 ?_
  refine z_iaddN (pc := 1276) C dL_law_1276 ?_
  refine z_scx (pc := 1277) C hX hb dL_law_1277 (by omega) hn ?_
  refine z_aload_n (pc := 1278) C dL_law_1278 rfl ?_
  refine z_iload_n (pc := 1279) C dL_law_1279 rfl ?_
  refine z_iconstN (pc := 1280) C 2 dL_law_1280 ?_
  refine z_iaddN (pc := 1281) C dL_law_1281 ?_
  refine z_scx (pc := 1282) C hX hb dL_law_1282 (by omega) hn ?_
  refine kL_158 (pc := 1283) C dL_law_1283 (m7_ask κ.2.1 E S im (B + 81) hM (xs (i + 1)) (xs (i + 2))) (ml_K hM1) (by omega) (Nat.le_of_ble_eq_true rfl) (by omega) (by omega) (fun v2 S2 im2 h2 => ?_)
  obtain ⟨rfl, rfl, rfl⟩ := h2
  refine z_icmp_eqT (pc := 1286) C 1452 dL_law_1286 (by decide) rfl ?_
  exact z_widen (by omega) (by omega) (nx _ _ (hI))
set_option maxRecDepth 100000 in
set_option maxHeartbeats 4000000 in
theorem lw_item (C : Cx E κ cL_law 4 RL ret d Rc Rs nm) (hX : va_X b n xs κ.2.2.2.2.1 E.2.2.1) (hb : b < E.2.1) (hn : n < 2 ^ 31) (hi : i + 5 < n) (hd : 150 ≤ d) (hcl : c + 3 ≤ Rc) (hsl : s + 200 ≤ Rs) (hI : INV S im B) (nx : Nx E κ b B i c s) : V E κ 4 c s 1291 [some (.ref b), some (.ref B), some (.ref (B + 81)), some (.int (nI i))] [] S im := by
  have hI0 := hI
  obtain ⟨⟨hC, hM, -⟩, ⟨⟨m, n7, hst⟩, h02⟩, -, ⟨hid, -⟩, ⟨⟨T, hT, hTm, hTc⟩, -⟩, h7, h8, ⟨⟨wt, hw, hwm, hwc⟩, -⟩⟩ := hI0
  have hok := ST_MOk hst
  have hM1 := hM
  refine z_aload_n (pc := 1291) C dL_law_1291 rfl ?_
  refine z_aload_n (pc := 1292) C dL_law_1292 rfl ?_
  refine z_iload_n (pc := 1293) C dL_law_1293 rfl ?_
  refine z_iconstN (pc := 1294) C 1 dL_law_1294 ?_
  refine z_iaddN (pc := 1295) C dL_law_1295 ?_
  refine z_scx (pc := 1296) C hX hb dL_law_1296 (by omega) hn ?_
  refine z_aload_n (pc := 1297) C dL_law_1297 rfl ?_
  refine z_iload_n (pc := 1298) C dL_law_1298 rfl ?_
  refine z_iconstN (pc := 1299) C 2 dL_law_1299 ?_
  refine z_iaddN (pc := 1300) C dL_law_1300 ?_
  refine z_scx (pc := 1301) C hX hb dL_law_1301 (by omega) hn ?_
  refine kL_159 (pc := 1302) C dL_law_1302 (c6_item κ.2.1 E S im B hC (im (B + 81 + 20)) (im (B + 81 + 21)) (im (B + 81 + 22)) (im (B + 81 + 23)) h8 (xs (i + 1)) (xs (i + 2))) (cl_K hC) (by omega) (Nat.le_of_ble_eq_true rfl) (by omega) (by omega) (fun v1 S1 im1 h1 => ?_)
  obtain ⟨rfl, rfl, rfl⟩ := h1
  refine z_aload_n (pc := 1305) C dL_law_1305 rfl ?_
  refine z_aload_n (pc := 1306) C dL_law_1306 rfl ?_
  refine z_iload_n (pc := 1307) C dL_law_1307 rfl ?_
  refine z_iconstN (pc := 1308) C 1 dL_law_1308 ?_
  refine z_iaddN (pc := 1309) C dL_law_1309 ?_
  refine z_scx (pc := 1310) C hX hb dL_law_1310 (by omega) hn ?_
  refine z_aload_n (pc := 1311) C dL_law_1311 rfl ?_
  refine z_iload_n (pc := 1312) C dL_law_1312 rfl ?_
  refine z_iconstN (pc := 1313) C 2 dL_law_1313 ?_
  refine z_iaddN (pc := 1314) C dL_law_1314 ?_
  refine z_scx (pc := 1315) C hX hb dL_law_1315 (by omega) hn ?_
  refine kL_162 (pc := 1316) C dL_law_1316 (m7_item κ.2.1 E S im (B + 81) hM (I_SlOk h8) (xs (i + 1)) (xs (i + 2))) (ml_K hM1) (by omega) (Nat.le_of_ble_eq_true rfl) (by omega) (by omega) (fun v2 S2 im2 h2 => ?_)
  obtain ⟨rfl, rfl, rfl⟩ := h2
  refine z_icmp_eqT (pc := 1319) C 1452 dL_law_1319 (by decide) rfl ?_
  exact z_widen (by omega) (by omega) (nx _ _ (hI))
set_option maxRecDepth 100000 in
set_option maxHeartbeats 4000000 in
theorem lw_rest (C : Cx E κ cL_law 4 RL ret d Rc Rs nm) (hX : va_X b n xs κ.2.2.2.2.1 E.2.2.1) (hb : b < E.2.1) (hn : n < 2 ^ 31) (hi : i + 5 < n) (hd : 150 ≤ d) (hcl : c + 3 ≤ Rc) (hsl : s + 200 ≤ Rs) (hI : INV S im B) (nx : Nx E κ b B i c s) : V E κ 4 c s 1324 [some (.ref b), some (.ref B), some (.ref (B + 81)), some (.int (nI i))] [] S im := by
  have hI0 := hI
  obtain ⟨⟨hC, hM, -⟩, ⟨⟨m, n7, hst⟩, h02⟩, -, ⟨hid, -⟩, ⟨⟨T, hT, hTm, hTc⟩, -⟩, h7, h8, ⟨⟨wt, hw, hwm, hwc⟩, -⟩⟩ := hI0
  have hok := ST_MOk hst
  have hM1 := hM
  refine z_aload_n (pc := 1324) C dL_law_1324 rfl ?_
  refine z_aload_n (pc := 1325) C dL_law_1325 rfl ?_
  refine z_iload_n (pc := 1326) C dL_law_1326 rfl ?_
  refine z_iconstN (pc := 1327) C 1 dL_law_1327 ?_
  refine z_iaddN (pc := 1328) C dL_law_1328 ?_
  refine z_scx (pc := 1329) C hX hb dL_law_1329 (by omega) hn ?_
  refine z_aload_n (pc := 1330) C dL_law_1330 rfl ?_
  refine z_iload_n (pc := 1331) C dL_law_1331 rfl ?_
  refine z_iconstN (pc := 1332) C 2 dL_law_1332 ?_
  refine z_iaddN (pc := 1333) C dL_law_1333 ?_
  refine z_scx (pc := 1334) C hX hb dL_law_1334 (by omega) hn ?_
  refine kL_163 (pc := 1335) C dL_law_1335 (c6_rest κ.2.1 E S im B hC (im (B + 81 + 20)) (im (B + 81 + 21)) (im (B + 81 + 22)) (im (B + 81 + 23)) h8 (xs (i + 1)) (xs (i + 2))) (cl_K hC) (by omega) (Nat.le_of_ble_eq_true rfl) (by omega) (by omega) (fun v1 S1 im1 h1 => ?_)
  obtain ⟨rfl, rfl, rfl⟩ := h1
  refine z_aload_n (pc := 1338) C dL_law_1338 rfl ?_
  refine z_aload_n (pc := 1339) C dL_law_1339 rfl ?_
  refine z_iload_n (pc := 1340) C dL_law_1340 rfl ?_
  refine z_iconstN (pc := 1341) C 1 dL_law_1341 ?_
  refine z_iaddN (pc := 1342) C dL_law_1342 ?_
  refine z_scx (pc := 1343) C hX hb dL_law_1343 (by omega) hn ?_
  refine z_aload_n (pc := 1344) C dL_law_1344 rfl ?_
  refine z_iload_n (pc := 1345) C dL_law_1345 rfl ?_
  refine z_iconstN (pc := 1346) C 2 dL_law_1346 ?_
  refine z_iaddN (pc := 1347) C dL_law_1347 ?_
  refine z_scx (pc := 1348) C hX hb dL_law_1348 (by omega) hn ?_
  refine kL_166 (pc := 1349) C dL_law_1349 (m7_rest κ.2.1 E S im (B + 81) hM (xs (i + 1)) (xs (i + 2))) (ml_K hM1) (by omega) (Nat.le_of_ble_eq_true rfl) (by omega) (by omega) (fun v2 S2 im2 h2 => ?_)
  obtain ⟨rfl, rfl, rfl⟩ := h2
  refine z_icmp_eqT (pc := 1352) C 1452 dL_law_1352 (by decide) rfl ?_
  exact z_widen (by omega) (by omega) (nx _ _ (hI))
set_option maxRecDepth 100000 in
set_option maxHeartbeats 4000000 in
theorem lw_sheet (C : Cx E κ cL_law 4 RL ret d Rc Rs nm) (hX : va_X b n xs κ.2.2.2.2.1 E.2.2.1) (hb : b < E.2.1) (hn : n < 2 ^ 31) (hi : i + 5 < n) (hd : 150 ≤ d) (hcl : c + 3 ≤ Rc) (hsl : s + 200 ≤ Rs) (hI : INV S im B) (nx : Nx E κ b B i c s) : V E κ 4 c s 1020 [some (.ref b), some (.ref B), some (.ref (B + 81)), some (.int (nI i))] [] S im := by
  have hI0 := hI
  obtain ⟨⟨hC, hM, -⟩, ⟨⟨m, n7, hst⟩, h02⟩, -, ⟨hid, -⟩, ⟨⟨T, hT, hTm, hTc⟩, -⟩, h7, h8, ⟨⟨wt, hw, hwm, hwc⟩, -⟩⟩ := hI0
  have hok := ST_MOk hst
  have hM1 := hM
  refine z_aload_n (pc := 1020) C dL_law_1020 rfl ?_
  refine z_aload_n (pc := 1021) C dL_law_1021 rfl ?_
  refine z_iload_n (pc := 1022) C dL_law_1022 rfl ?_
  refine z_iconstN (pc := 1023) C 1 dL_law_1023 ?_
  refine z_iaddN (pc := 1024) C dL_law_1024 ?_
  refine z_scx (pc := 1025) C hX hb dL_law_1025 (by omega) hn ?_
  refine z_aload_n (pc := 1026) C dL_law_1026 rfl ?_
  refine z_iload_n (pc := 1027) C dL_law_1027 rfl ?_
  refine z_iconstN (pc := 1028) C 2 dL_law_1028 ?_
  refine z_iaddN (pc := 1029) C dL_law_1029 ?_
  refine z_scx (pc := 1030) C hX hb dL_law_1030 (by omega) hn ?_
  refine z_aload_n (pc := 1031) C dL_law_1031 rfl ?_
  refine z_iload_n (pc := 1032) C dL_law_1032 rfl ?_
  refine z_iconstN (pc := 1033) C 3 dL_law_1033 ?_
  refine z_iaddN (pc := 1034) C dL_law_1034 ?_
  refine z_scx (pc := 1035) C hX hb dL_law_1035 (by omega) hn ?_
  refine kL_130 (pc := 1036) C dL_law_1036 (c6_sheet κ.2.1 E S im B hC (xs (i + 1)) (xs (i + 2)) (xs (i + 3))) (cl_K hC) (by omega) (Nat.le_of_ble_eq_true rfl) (by omega) (by omega) (fun v1 S1 im1 h1 => ?_)
  obtain ⟨rfl, rfl, g1⟩ := h1
  refine z_aload_n (pc := 1039) C dL_law_1039 rfl ?_
  refine z_aload_n (pc := 1040) C dL_law_1040 rfl ?_
  refine z_iload_n (pc := 1041) C dL_law_1041 rfl ?_
  refine z_iconstN (pc := 1042) C 1 dL_law_1042 ?_
  refine z_iaddN (pc := 1043) C dL_law_1043 ?_
  refine z_scx (pc := 1044) C hX hb dL_law_1044 (by omega) hn ?_
  refine z_aload_n (pc := 1045) C dL_law_1045 rfl ?_
  refine z_iload_n (pc := 1046) C dL_law_1046 rfl ?_
  refine z_iconstN (pc := 1047) C 2 dL_law_1047 ?_
  refine z_iaddN (pc := 1048) C dL_law_1048 ?_
  refine z_scx (pc := 1049) C hX hb dL_law_1049 (by omega) hn ?_
  refine z_aload_n (pc := 1050) C dL_law_1050 rfl ?_
  refine z_iload_n (pc := 1051) C dL_law_1051 rfl ?_
  refine z_iconstN (pc := 1052) C 3 dL_law_1052 ?_
  refine z_iaddN (pc := 1053) C dL_law_1053 ?_
  refine z_scx (pc := 1054) C hX hb dL_law_1054 (by omega) hn ?_
  refine kL_133 (pc := 1055) C dL_law_1055 (m7_sheet κ.2.1 E S im1 (B + 81) hM (xs (i + 1)) (xs (i + 2)) (xs (i + 3))) (ml_K hM1) (by omega) (Nat.le_of_ble_eq_true rfl) (by omega) (by omega) (fun v2 S2 im2 h2 => ?_)
  obtain ⟨rfl, rfl, g2⟩ := h2
  refine z_icmp_eqT (pc := 1058) C 1452 dL_law_1058 (by decide) rfl ?_
  exact z_widen (by omega) (by omega) (nx _ _ (INV_sheet hI g1 g2))
set_option maxRecDepth 100000 in
set_option maxHeartbeats 4000000 in
theorem lw_trim (C : Cx E κ cL_law 4 RL ret d Rc Rs nm) (hX : va_X b n xs κ.2.2.2.2.1 E.2.2.1) (hb : b < E.2.1) (hn : n < 2 ^ 31) (hi : i + 5 < n) (hd : 150 ≤ d) (hcl : c + 3 ≤ Rc) (hsl : s + 200 ≤ Rs) (hI : INV S im B) (nx : Nx E κ b B i c s) : V E κ 4 c s 928 [some (.ref b), some (.ref B), some (.ref (B + 81)), some (.int (nI i))] [] S im := by
  have hI0 := hI
  obtain ⟨⟨hC, hM, -⟩, ⟨⟨m, n7, hst⟩, h02⟩, -, ⟨hid, -⟩, ⟨⟨T, hT, hTm, hTc⟩, -⟩, h7, h8, ⟨⟨wt, hw, hwm, hwc⟩, -⟩⟩ := hI0
  have hok := ST_MOk hst
  have hM1 := hM
  refine z_aload_n (pc := 928) C dL_law_928 rfl ?_
  refine z_aload_n (pc := 929) C dL_law_929 rfl ?_
  refine z_iload_n (pc := 930) C dL_law_930 rfl ?_
  refine z_iconstN (pc := 931) C 1 dL_law_931 ?_
  refine z_iaddN (pc := 932) C dL_law_932 ?_
  refine z_scx (pc := 933) C hX hb dL_law_933 (by omega) hn ?_
  refine kL_114 (pc := 934) C dL_law_934 (c6_trim κ.2.1 E S im B hC T hTc (xs (i + 1))) (cl_K hC) (by omega) (Nat.le_of_ble_eq_true rfl) (by omega) (by omega) (fun v1 S1 im1 h1 => ?_)
  obtain ⟨rfl, rfl, g1⟩ := h1
  have e1 : im1 (B + 81) = im (B + 81) := by rw [g1]; split; exact up2_n _ _ _ (by omega); rfl
  refine z_aload_n (pc := 937) C dL_law_937 rfl ?_
  refine z_aload_n (pc := 938) C dL_law_938 rfl ?_
  refine z_iload_n (pc := 939) C dL_law_939 rfl ?_
  refine z_iconstN (pc := 940) C 1 dL_law_940 ?_
  refine z_iaddN (pc := 941) C dL_law_941 ?_
  refine z_scx (pc := 942) C hX hb dL_law_942 (by omega) hn ?_
  refine kL_117 (pc := 943) C dL_law_943 (m7_trim κ.2.1 E S im1 (B + 81) hM T (by rw [e1]; exact hTm) (xs (i + 1))) (ml_K hM1) (by omega) (Nat.le_of_ble_eq_true rfl) (by omega) (by omega) (fun v2 S2 im2 h2 => ?_)
  obtain ⟨rfl, rfl, g2⟩ := h2
  refine z_icmp_eqT (pc := 946) C 1452 dL_law_946 (by decide) rfl ?_
  by_cases hc : nI 0 ≤ xs (i + 1) ∧ xs (i + 1) ≤ nI T
  · rw [if_pos hc] at g1 g2
    rw [g1] at g2
    rw [g2]
    exact z_widen (by omega) (by omega) (nx _ _ (INV_trim hI hT hc))
  · rw [if_neg hc] at g1 g2
    rw [g2, g1]
    exact z_widen (by omega) (by omega) (nx _ _ hI)
set_option maxRecDepth 100000 in
set_option maxHeartbeats 4000000 in
theorem lw_tell (C : Cx E κ cL_law 4 RL ret d Rc Rs nm) (hX : va_X b n xs κ.2.2.2.2.1 E.2.2.1) (hb : b < E.2.1) (hn : n < 2 ^ 31) (hi : i + 5 < n) (hd : 150 ≤ d) (hcl : c + 3 ≤ Rc) (hsl : s + 200 ≤ Rs) (hI : INV S im B) (nx : Nx E κ b B i c s) : V E κ 4 c s 1357 [some (.ref b), some (.ref B), some (.ref (B + 81)), some (.int (nI i))] [] S im := by
  have hI0 := hI
  obtain ⟨⟨hC, hM, -⟩, ⟨⟨m, n7, hst⟩, h02⟩, -, ⟨hid, -⟩, ⟨⟨T, hT, hTm, hTc⟩, -⟩, h7, h8, ⟨⟨wt, hw, hwm, hwc⟩, -⟩⟩ := hI0
  have hok := ST_MOk hst
  have hM1 := hM
  refine z_aload_n (pc := 1357) C dL_law_1357 rfl ?_
  refine z_aload_n (pc := 1358) C dL_law_1358 rfl ?_
  refine z_iload_n (pc := 1359) C dL_law_1359 rfl ?_
  refine z_iconstN (pc := 1360) C 1 dL_law_1360 ?_
  refine z_iaddN (pc := 1361) C dL_law_1361 ?_
  refine z_scx (pc := 1362) C hX hb dL_law_1362 (by omega) hn ?_
  refine kL_167 (pc := 1363) C dL_law_1363 (c6_tell κ.2.1 E S im B hC wt hw hwc (xs (i + 1))) (cl_K hC) (by omega) (Nat.le_of_ble_eq_true rfl) (by omega) (by omega) (fun v1 S1 im1 h1 => ?_)
  obtain ⟨rfl, rfl, g1⟩ := h1
  have e1 : im1 (B + 81) = im (B + 81) := by rw [g1]; split; rfl; rw [up2_n _ _ _ (by omega), up2_n _ _ _ (by omega)]
  refine z_aload_n (pc := 1366) C dL_law_1366 rfl ?_
  refine z_aload_n (pc := 1367) C dL_law_1367 rfl ?_
  refine z_iload_n (pc := 1368) C dL_law_1368 rfl ?_
  refine z_iconstN (pc := 1369) C 1 dL_law_1369 ?_
  refine z_iaddN (pc := 1370) C dL_law_1370 ?_
  refine z_scx (pc := 1371) C hX hb dL_law_1371 (by omega) hn ?_
  refine kL_170 (pc := 1372) C dL_law_1372 (m7_tell κ.2.1 E S im1 (B + 81) hM wt hw (by rw [e1]; exact hwm) (xs (i + 1))) (ml_K hM1) (by omega) (Nat.le_of_ble_eq_true rfl) (by omega) (by omega) (fun v2 S2 im2 h2 => ?_)
  obtain ⟨rfl, rfl, g2⟩ := h2
  refine z_icmp_eqT (pc := 1375) C 1452 dL_law_1375 (by decide) rfl ?_
  by_cases hc : wt = 60
  · rw [if_pos hc] at g1 g2
    rw [g2, g1]
    exact z_widen (by omega) (by omega) (nx _ _ hI)
  · rw [if_neg hc] at g1 g2
    rw [g1] at g2
    rw [g2]
    exact z_widen (by omega) (by omega) (nx _ _ (INV_tell hI (by omega)))
set_option maxRecDepth 100000 in
set_option maxHeartbeats 4000000 in
theorem lw_feed (C : Cx E κ cL_law 4 RL ret d Rc Rs nm) (hX : va_X b n xs κ.2.2.2.2.1 E.2.2.1) (hb : b < E.2.1) (hn : n < 2 ^ 31) (hi : i + 5 < n) (hd : 150 ≤ d) (hcl : c + 3 ≤ Rc) (hsl : s + 200 ≤ Rs) (hI : INV S im B) (nx : Nx E κ b B i c s) : V E κ 4 c s 885 [some (.ref b), some (.ref B), some (.ref (B + 81)), some (.int (nI i))] [] S im := by
  have hI0 := hI
  obtain ⟨⟨hC, hM, -⟩, ⟨⟨m, n7, hst⟩, h02⟩, -, ⟨hid, -⟩, ⟨⟨T, hT, hTm, hTc⟩, -⟩, h7, h8, ⟨⟨wt, hw, hwm, hwc⟩, -⟩⟩ := hI0
  have hok := ST_MOk hst
  have hM1 := hM
  refine z_aload_n (pc := 885) C dL_law_885 rfl ?_
  refine z_aload_n (pc := 886) C dL_law_886 rfl ?_
  refine z_iload_n (pc := 887) C dL_law_887 rfl ?_
  refine z_iconstN (pc := 888) C 1 dL_law_888 ?_
  refine z_iaddN (pc := 889) C dL_law_889 ?_
  refine z_scx (pc := 890) C hX hb dL_law_890 (by omega) hn ?_
  refine z_aload_n (pc := 891) C dL_law_891 rfl ?_
  refine z_iload_n (pc := 892) C dL_law_892 rfl ?_
  refine z_iconstN (pc := 893) C 2 dL_law_893 ?_
  refine z_iaddN (pc := 894) C dL_law_894 ?_
  refine z_scx (pc := 895) C hX hb dL_law_895 (by omega) hn ?_
  refine z_aload_n (pc := 896) C dL_law_896 rfl ?_
  refine z_iload_n (pc := 897) C dL_law_897 rfl ?_
  refine z_iconstN (pc := 898) C 3 dL_law_898 ?_
  refine z_iaddN (pc := 899) C dL_law_899 ?_
  refine z_scx (pc := 900) C hX hb dL_law_900 (by omega) hn ?_
  refine kL_110 (pc := 901) C dL_law_901 (c6_feed κ.2.1 E S im B hC T hT hTc (xs (i + 1)) (xs (i + 2)) (xs (i + 3))) (cl_K hC) (by omega) (Nat.le_of_ble_eq_true rfl) (by omega) (by omega) (fun v1 S1 im1 h1 => ?_)
  obtain ⟨rfl, rfl, g1⟩ := h1
  have e1 : im1 (B + 81) = im (B + 81) := by
    unfold g_feedC at g1
    split at g1
    · exact g1.2.2 _ (by omega) (by omega)
    · rw [g1]
  refine z_aload_n (pc := 904) C dL_law_904 rfl ?_
  refine z_aload_n (pc := 905) C dL_law_905 rfl ?_
  refine z_iload_n (pc := 906) C dL_law_906 rfl ?_
  refine z_iconstN (pc := 907) C 1 dL_law_907 ?_
  refine z_iaddN (pc := 908) C dL_law_908 ?_
  refine z_scx (pc := 909) C hX hb dL_law_909 (by omega) hn ?_
  refine z_aload_n (pc := 910) C dL_law_910 rfl ?_
  refine z_iload_n (pc := 911) C dL_law_911 rfl ?_
  refine z_iconstN (pc := 912) C 2 dL_law_912 ?_
  refine z_iaddN (pc := 913) C dL_law_913 ?_
  refine z_scx (pc := 914) C hX hb dL_law_914 (by omega) hn ?_
  refine z_aload_n (pc := 915) C dL_law_915 rfl ?_
  refine z_iload_n (pc := 916) C dL_law_916 rfl ?_
  refine z_iconstN (pc := 917) C 3 dL_law_917 ?_
  refine z_iaddN (pc := 918) C dL_law_918 ?_
  refine z_scx (pc := 919) C hX hb dL_law_919 (by omega) hn ?_
  refine kL_113 (pc := 920) C dL_law_920 (m7_feed κ.2.1 E S im1 (B + 81) hM T hT (by rw [e1]; exact hTm) (xs (i + 1)) (xs (i + 2)) (xs (i + 3))) (ml_K hM1) (by omega) (Nat.le_of_ble_eq_true rfl) (by omega) (by omega) (fun v2 S2 im2 h2 => ?_)
  obtain ⟨rfl, rfl, g2⟩ := h2
  refine z_icmp_eqT (pc := 923) C 1452 dL_law_923 (by decide) rfl ?_
  exact z_widen (by omega) (by omega) (nx _ _ (INV_feed hI g1 g2))
end LW
