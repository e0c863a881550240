/-! the law: the loop -/
theorem and63 (x : Int32) : ∃ v : Nat, v ≤ 63 ∧ (x &&& nI 63).toInt = (v : Int) := by
  have h : (x &&& nI 63).toBitVec.toNat ≤ 63 := by
    rw [Int32.toBitVec_and, BitVec.toNat_and]
    exact Nat.le_trans Nat.and_le_right (by decide)
  refine ⟨(x &&& nI 63).toBitVec.toNat, h, ?_⟩
  show (x &&& nI 63).toBitVec.toInt = _
  exact BitVec.toInt_eq_toNat_of_lt (by omega)
theorem lp_lt {n i : Nat} (hn : n ≤ 3072) (hi : i ≤ 4000) : (nI n - nI 6 < nI i) ↔ n < i + 6 := by
  rw [Int32.lt_iff_toInt_lt, sub_toI (x := nI n) (y := nI 6) (a := 0) (b := 3072) (c := 0) (d := 6) ⟨by rw [nI_toInt (by omega)]; omega, by rw [nI_toInt (by omega)]; omega⟩ ⟨by decide, by decide⟩ (by decide) (by decide), nI_toInt (by omega), nI_toInt (by omega), nI_toInt (by omega)]
  omega
section LW
variable {E : Ex} {κ : Kx} {ret : Option FieldType} {d Rc Rs : Nat} {nm : String} {b n i B c s : Nat} {xs : Nat → Int32} {S : Sx} {im : Mem}
set_option maxRecDepth 100000 in
set_option maxHeartbeats 4000000 in
theorem lw_case (C : Cx E κ cL_law 4 RL ret d Rc Rs nm) (hX : va_X b n xs κ.2.2.2.2.1 E.2.2.1) (hb : b < E.2.1) (hn : n ≤ 3072) (hd : 150 ≤ d) (hi : i + 5 < n) (hcl : c + 3 ≤ Rc) (hsl : s + 200 ≤ Rs) (hI : INV S im B) (nx : Nx E κ b B i c s) : V E κ 4 c s 33 [some (.ref b), some (.ref B), some (.ref (B + 81)), some (.int (nI i))] [.int (xs i &&& nI 63)] S im := by
  obtain ⟨v, hv, e⟩ := and63 (xs i)
  have hn31 : n < 2 ^ 31 := by omega
  rcases (show v = 0 ∨ v = 1 ∨ v = 2 ∨ v = 3 ∨ v = 4 ∨ v = 5 ∨ v = 6 ∨ v = 7 ∨ v = 8 ∨ v = 9 ∨ v = 10 ∨ v = 11 ∨ v = 12 ∨ v = 13 ∨ v = 14 ∨ v = 15 ∨ v = 16 ∨ v = 17 ∨ v = 18 ∨ v = 19 ∨ v = 20 ∨ v = 21 ∨ v = 22 ∨ v = 23 ∨ v = 24 ∨ v = 25 ∨ v = 26 ∨ v = 27 ∨ v = 28 ∨ v = 29 ∨ v = 30 ∨ v = 31 ∨ v = 32 ∨ v = 33 ∨ v = 34 ∨ v = 35 ∨ v = 36 ∨ v = 37 ∨ v = 38 ∨ v = 39 ∨ v = 40 ∨ v = 41 ∨ 41 < v by omega) with rfl | rfl | rfl | rfl | rfl | rfl | rfl | rfl | rfl | rfl | rfl | rfl | rfl | rfl | rfl | rfl | rfl | rfl | rfl | rfl | rfl | rfl | rfl | rfl | rfl | rfl | rfl | rfl | rfl | rfl | rfl | rfl | rfl | rfl | rfl | rfl | rfl | rfl | rfl | rfl | rfl | rfl | h
  · exact z_tableIn (pc := 33) (off := 183) C 216 dL_law_33 (by rw [e]; decide) (by rw [e]; decide) (by rw [e]; rfl) (by decide) (lw_lamp C hX hb hn31 hi hd hcl hsl hI nx)
  · exact z_tableIn (pc := 33) (off := 236) C 269 dL_law_33 (by rw [e]; decide) (by rw [e]; decide) (by rw [e]; rfl) (by decide) (lw_told C hX hb hn31 hi hd hcl hsl hI nx)
  · exact z_tableIn (pc := 33) (off := 269) C 302 dL_law_33 (by rw [e]; decide) (by rw [e]; decide) (by rw [e]; rfl) (by decide) (lw_drinks C hX hb hn31 hi hd hcl hsl hI nx)
  · exact z_tableIn (pc := 33) (off := 302) C 335 dL_law_33 (by rw [e]; decide) (by rw [e]; decide) (by rw [e]; rfl) (by decide) (lw_as C hX hb hn31 hi hd hcl hsl hI nx)
  · exact z_tableIn (pc := 33) (off := 335) C 368 dL_law_33 (by rw [e]; decide) (by rw [e]; decide) (by rw [e]; rfl) (by decide) (lw_turns C hX hb hn31 hi hd hcl hsl hI nx)
  · exact z_tableIn (pc := 33) (off := 368) C 401 dL_law_33 (by rw [e]; decide) (by rw [e]; decide) (by rw [e]; rfl) (by decide) (lw_set C hX hb hn31 hi hd hcl hsl hI nx)
  · exact z_tableIn (pc := 33) (off := 411) C 444 dL_law_33 (by rw [e]; decide) (by rw [e]; decide) (by rw [e]; rfl) (by decide) (lw_deal C hX hb hn31 hi hd hcl hsl hI nx)
  · exact z_tableIn (pc := 33) (off := 434) C 467 dL_law_33 (by rw [e]; decide) (by rw [e]; decide) (by rw [e]; rfl) (by decide) (lw_seed C hX hb hn31 hi hd hcl hsl hI nx)
  · exact z_tableIn (pc := 33) (off := 457) C 490 dL_law_33 (by rw [e]; decide) (by rw [e]; decide) (by rw [e]; rfl) (by decide) (lw_rule C hX hb hn31 hi hd hcl hsl hI nx)
  · exact z_tableIn (pc := 33) (off := 490) C 523 dL_law_33 (by rw [e]; decide) (by rw [e]; decide) (by rw [e]; rfl) (by decide) (lw_order C hX hb hn31 hi hd hcl hsl hI nx)
  · exact z_tableIn (pc := 33) (off := 513) C 546 dL_law_33 (by rw [e]; decide) (by rw [e]; decide) (by rw [e]; rfl) (by decide) (lw_nights C hX hb hn31 hi hd hcl hsl hI nx)
  · exact z_tableIn (pc := 33) (off := 536) C 569 dL_law_33 (by rw [e]; decide) (by rw [e]; decide) (by rw [e]; rfl) (by decide) (lw_way C hX hb hn31 hi hd hcl hsl hI nx)
  · exact z_tableIn (pc := 33) (off := 549) C 582 dL_law_33 (by rw [e]; decide) (by rw [e]; decide) (by rw [e]; rfl) (by decide) (lw_dark C hX hb hn31 hi hd hcl hsl hI nx)
  · exact z_tableIn (pc := 33) (off := 572) C 605 dL_law_33 (by rw [e]; decide) (by rw [e]; decide) (by rw [e]; rfl) (by decide) (lw_street C hX hb hn31 hi hd hcl hsl hI nx)
  · exact z_tableIn (pc := 33) (off := 595) C 628 dL_law_33 (by rw [e]; decide) (by rw [e]; decide) (by rw [e]; rfl) (by decide) (lw_behind C hX hb hn31 hi hd hcl hsl hI nx)
  · exact z_tableIn (pc := 33) (off := 628) C 661 dL_law_33 (by rw [e]; decide) (by rw [e]; decide) (by rw [e]; rfl) (by decide) (lw_round C hX hb hn31 hi hd hcl hsl hI nx)
  · exact z_tableIn (pc := 33) (off := 641) C 674 dL_law_33 (by rw [e]; decide) (by rw [e]; decide) (by rw [e]; rfl) (by decide) (lw_first C hX hb hn31 hi hd hcl hsl hI nx)
  · exact z_tableIn (pc := 33) (off := 674) C 707 dL_law_33 (by rw [e]; decide) (by rw [e]; decide) (by rw [e]; rfl) (by decide) (lw_leastLaw C hX hb hn31 hi hd hcl hsl hI nx)
  · exact z_tableIn (pc := 33) (off := 707) C 740 dL_law_33 (by rw [e]; decide) (by rw [e]; decide) (by rw [e]; rfl) (by decide) (lw_spared C hX hb hn31 hi hd hcl hsl hI nx)
  · exact z_tableIn (pc := 33) (off := 740) C 773 dL_law_33 (by rw [e]; decide) (by rw [e]; decide) (by rw [e]; rfl) (by decide) (lw_last C hX hb hn31 hi hd hcl hsl hI nx)
  · exact z_tableIn (pc := 33) (off := 773) C 806 dL_law_33 (by rw [e]; decide) (by rw [e]; decide) (by rw [e]; rfl) (by decide) (lw_oiled C hX hb hn31 hi hd hcl hsl hI nx)
  · exact z_tableIn (pc := 33) (off := 816) C 849 dL_law_33 (by rw [e]; decide) (by rw [e]; decide) (by rw [e]; rfl) (by decide) (lw_fee C hX hb hn31 hi hd hcl hsl hI nx)
  · exact z_tableIn (pc := 33) (off := 829) C 862 dL_law_33 (by rw [e]; decide) (by rw [e]; decide) (by rw [e]; rfl) (by decide) (lw_fine C hX hb hn31 hi hd hcl hsl hI nx)
  · exact z_tableIn (pc := 33) (off := 852) C 885 dL_law_33 (by rw [e]; decide) (by rw [e]; decide) (by rw [e]; rfl) (by decide) (lw_feed C hX hb hn31 hi hd hcl hsl hI nx)
  · exact z_tableIn (pc := 33) (off := 895) C 928 dL_law_33 (by rw [e]; decide) (by rw [e]; decide) (by rw [e]; rfl) (by decide) (lw_trim C hX hb hn31 hi hd hcl hsl hI nx)
  · exact z_tableIn (pc := 33) (off := 918) C 951 dL_law_33 (by rw [e]; decide) (by rw [e]; decide) (by rw [e]; rfl) (by decide) (lw_text C hX hb hn31 hi hd hcl hsl hI nx)
  · exact z_tableIn (pc := 33) (off := 931) C 964 dL_law_33 (by rw [e]; decide) (by rw [e]; decide) (by rw [e]; rfl) (by decide) (lw_textTold C hX hb hn31 hi hd hcl hsl hI nx)
  · exact z_tableIn (pc := 33) (off := 964) C 997 dL_law_33 (by rw [e]; decide) (by rw [e]; decide) (by rw [e]; rfl) (by decide) (lw_why C hX hb hn31 hi hd hcl hsl hI nx)
  · exact z_tableIn (pc := 33) (off := 987) C 1020 dL_law_33 (by rw [e]; decide) (by rw [e]; decide) (by rw [e]; rfl) (by decide) (lw_sheet C hX hb hn31 hi hd hcl hsl hI nx)
  · exact z_tableIn (pc := 33) (off := 1030) C 1063 dL_law_33 (by rw [e]; decide) (by rw [e]; decide) (by rw [e]; rfl) (by decide) (lw_mark C hX hb hn31 hi hd hcl hsl hI nx)
  · exact z_tableIn (pc := 33) (off := 1073) C 1106 dL_law_33 (by rw [e]; decide) (by rw [e]; decide) (by rw [e]; rfl) (by decide) (lw_pour C hX hb hn31 hi hd hcl hsl hI nx)
  · exact z_tableIn (pc := 33) (off := 1096) C 1129 dL_law_33 (by rw [e]; decide) (by rw [e]; decide) (by rw [e]; rfl) (by decide) (lw_reads C hX hb hn31 hi hd hcl hsl hI nx)
  · exact z_tableIn (pc := 33) (off := 1119) C 1152 dL_law_33 (by rw [e]; decide) (by rw [e]; decide) (by rw [e]; rfl) (by decide) (lw_copy C hX hb hn31 hi hd hcl hsl hI nx)
  · exact z_tableIn (pc := 33) (off := 1182) C 1215 dL_law_33 (by rw [e]; decide) (by rw [e]; decide) (by rw [e]; rfl) (by decide) (lw_lay C hX hb hn31 hi hd hcl hsl hI nx)
  · exact z_tableIn (pc := 33) (off := 1225) C 1258 dL_law_33 (by rw [e]; decide) (by rw [e]; decide) (by rw [e]; rfl) (by decide) (lw_ask C hX hb hn31 hi hd hcl hsl hI nx)
  · exact z_tableIn (pc := 33) (off := 1258) C 1291 dL_law_33 (by rw [e]; decide) (by rw [e]; decide) (by rw [e]; rfl) (by decide) (lw_item C hX hb hn31 hi hd hcl hsl hI nx)
  · exact z_tableIn (pc := 33) (off := 1291) C 1324 dL_law_33 (by rw [e]; decide) (by rw [e]; decide) (by rw [e]; rfl) (by decide) (lw_rest C hX hb hn31 hi hd hcl hsl hI nx)
  · exact z_tableIn (pc := 33) (off := 1324) C 1357 dL_law_33 (by rw [e]; decide) (by rw [e]; decide) (by rw [e]; rfl) (by decide) (lw_tell C hX hb hn31 hi hd hcl hsl hI nx)
  · exact z_tableIn (pc := 33) (off := 1347) C 1380 dL_law_33 (by rw [e]; decide) (by rw [e]; decide) (by rw [e]; rfl) (by decide) (lw_check C hX hb hn31 hi hd hcl hsl hI nx)
  · exact z_tableIn (pc := 33) (off := 1370) C 1403 dL_law_33 (by rw [e]; decide) (by rw [e]; decide) (by rw [e]; rfl) (by decide) (lw_keep C hX hb hn31 hi hd hcl hsl hI nx)
  · exact z_tableIn (pc := 33) (off := 1383) C 1416 dL_law_33 (by rw [e]; decide) (by rw [e]; decide) (by rw [e]; rfl) (by decide) (lw_back C hX hb hn31 hi hd hcl hsl hI nx)
  · exact z_tableIn (pc := 33) (off := 1396) C 1429 dL_law_33 (by rw [e]; decide) (by rw [e]; decide) (by rw [e]; rfl) (by decide) (lw_count C hX hb hn31 hi hd hcl hsl hI nx)
  · exact z_tableOut (pc := 33) C 1452 dL_law_33 (Or.inr (by rw [e]; omega)) (by decide) (z_widen (by omega) (by omega) (nx S im hI))
theorem lw_loop (C : Cx E κ cL_law 4 RL ret d Rc Rs nm) (hX : va_X b n xs κ.2.2.2.2.1 E.2.2.1) (hb : b < E.2.1) (hn : n ≤ 3072) (hd : 150 ≤ d) (fin : ∀ c s i S im, c ≤ Rc → s ≤ Rs → V E κ 4 c s 1458 [some (.ref b), some (.ref B), some (.ref (B + 81)), some (.int (nI i))] [] S im) : ∀ k c s i S im, n < i + 6 * k + 6 → i + 6 * k ≤ 4000 → c + 3 * k ≤ Rc → s + 200 * k ≤ Rs → INV S im B → V E κ 4 c s 18 [some (.ref b), some (.ref B), some (.ref (B + 81)), some (.int (nI i))] [] S im := by
  intro k
  induction k with
  | zero =>
    intro c s i S im h1 h2 h3 h4 hI
    refine z_iload_n (pc := 18) C dL_law_18 rfl ?_
    refine z_aload_n (pc := 19) C dL_law_19 rfl ?_
    refine z_scl (pc := 20) C hX hb dL_law_20 ?_
    refine z_bipushN (pc := 21) C 6 (by decide) dL_law_21 ?_
    refine z_isub (pc := 23) C dL_law_23 ?_
    exact z_icmp_gtT (pc := 24) C 1458 dL_law_24 (by decide) ((lp_lt hn (by omega)).mpr (by omega)) (fin c s i S im (by omega) (by omega))
  | succ k ih =>
    intro c s i S im h1 h2 h3 h4 hI
    refine z_iload_n (pc := 18) C dL_law_18 rfl ?_
    refine z_aload_n (pc := 19) C dL_law_19 rfl ?_
    refine z_scl (pc := 20) C hX hb dL_law_20 ?_
    refine z_bipushN (pc := 21) C 6 (by decide) dL_law_21 ?_
    refine z_isub (pc := 23) C dL_law_23 ?_
    refine z_icmp_gt (pc := 24) C 1458 dL_law_24 (by decide) (fun _ => fin c s i S im (by omega) (by omega)) (fun h => ?_)
    have h6 : ¬ n < i + 6 := fun q => h ((lp_lt hn (by omega)).mpr q)
    refine z_aload_n (pc := 27) C dL_law_27 rfl ?_
    refine z_iload_n (pc := 28) C dL_law_28 rfl ?_
    refine z_scx (pc := 29) C hX hb dL_law_29 (by omega) (by omega) ?_
    refine z_bipushN (pc := 30) C 63 (by decide) dL_law_30 ?_
    refine z_iand (pc := 32) C dL_law_32 ?_
    refine lw_case C hX hb hn hd (by omega) (by omega) (by omega) hI (fun S' im' hI' => ?_)
    refine z_iincN (pc := 1452) C 6 dL_law_1452 rfl (by decide) rfl ?_
    refine z_goto (pc := 1455) C 18 dL_law_1455 (by decide) ?_
    exact ih (c + 3) (s + 200) (i + 6) S' im' (by omega) (by omega) (by omega) (by omega) hI'
end LW
