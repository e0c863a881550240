/-! texts of constants: rows, and the JDK's own methods on them -/
section ZSS
variable {E : Ex} {κ : Kx} {cc : ByteArray} {nL : Nat} {own : String} {ret : Option FieldType} {d Rc Rs : Nat} {nm : String} {cells slots pc : Nat} {L : List (Option Value)} {st rest : List Value} {S : Sx} {im : Mem}
variable {y : MethodName} {bytes : ByteArray} {maxL dc mc ms ix : Nat} {rt : Option FieldType} {post : Option Value → Sx → Mem → Prop} {As : List Value}
theorem z_cVS (C : Cx E κ cc nL own ret d Rc Rs nm) {i : Nat} (hi : i < 6) (hyc : y.cls = "java/lang/String") (hd : decode cc pc = .ok (.invokevirtual ix, 3)) (hc : Mt κ.2.1 E y bytes maxL rt dc mc ms (.ref (E.2.2.2.2.1 i) :: As) S im post) (w1 : Cond.methodLink own ix y ∈ tb) (w2 : Cond.instanceMethod y ∈ tb) (w3 : Cond.selects y.cls y y ∈ tb) (w4 : Cond.initialized y.cls ∈ tb) (w5 : Cond.code y bytes maxL rt ∈ tb)
    (hy : y.cls ≠ "java/lang/invoke/MethodHandle" ∧ y.cls ≠ "java/lang/invoke/VarHandle" ∧ (parseMethodDescriptor y.desc).map (fun d => d.parameters.length) = some As.length) (hmx : maxL ≤ 44) (hdc : dc < d) (hst : st = As.reverse ++ .ref (E.2.2.2.2.1 i) :: rest) (hre : (rest.map fun v => v.category).sum ≤ 8) (hcl : cells + mc ≤ Rc) (hsl : slots + ms ≤ Rs)
    (kk : ∀ (r : Option Value) (S' : Sx) (im' : Mem), post r S' im' → V E κ nL (cells + mc) (slots + ms) (pc + 3) L (r.toList ++ rest) S' im') : V E κ nL cells slots pc L st S im := fun H ls locs h1 h2 h3 => by
  subst hst
  have hR := C.2.2.2.2.2.2.2.1
  have hts := C.2.2.2.2.1
  have hSt := C.2.2.2.2.2.2.2.2.1
  obtain ⟨cell, g1, g2, g3, g4⟩ := (hSt.2.2.2.1.1.1 i hi).1
  have hfr : (rmv dc mc ms).frames + 1 ≤ κ.2.2.2.1.frames := by show dc + 1 ≤ _; omega
  have hlo : 8 + (maxL + 11) + (rmv dc mc ms).locals ≤ κ.2.2.2.1.locals := by show 8 + (maxL + 11) + 64 * dc ≤ _; omega
  exact z_back (a := (Value.ref (E.2.2.2.2.1 i) :: As).toArray) h3 h1 (va_runV (As := As) (rest := rest) (b := E.2.2.2.2.1 i) ⟨C.1, C.2.1, C.2.2.1, C.2.2.2.1, hts⟩ hc ⟨callB_of As.length hts (wsm_good w5) rfl rfl rfl (hts _ w4) (hts _ w1) hy ⟨hfr, hlo⟩, hts _ w2, hts _ w3⟩ ⟨Gd.blind, ⟨cell, by rw [h2.2.2.1 _ (by unfold bs at g4; omega)]; exact g1, g2, by rw [hyc]; exact g3⟩, fun U hU hW => ⟨rfl, by rw [hU]; exact h2, hSt.warm hW⟩⟩ rfl rfl h1.1 rfl (lv_room hre) hd ⟨by omega, by omega⟩) kk
theorem z_ldcS (C : Cx E κ cc nL RX5 ret d Rc Rs nm) {i : Nat} {tx : String} (hd : decode cc pc = .ok (.ldc ix, 2)) (hx : strS[i]? = some (ix, tx)) (kk : V E κ nL cells slots (pc + 2) L (.ref (E.2.2.2.2.1 i) :: st) S im) : V E κ nL cells slots pc L st S im := fun H ls locs h1 h2 h3 => va_ldcS C.1 C.2.1 C.2.2.2.1 (C.2.2.2.2.2.2.2.2.1.2.2.2.1.2 i _ hx) hd (kk H ls locs h1 h2 h3)
theorem z_sval (C : Cx E κ cc nL RJ0 ret d Rc Rs nm) {i : Nat} (hd : decode cc pc = .ok (.getfield 9, 3)) (hi : i < 6) (kk : V E κ nL cells slots (pc + 3) L (.ref (E.2.2.2.2.2.1 i) :: st) S im) : V E κ nL cells slots pc L (.ref (E.2.2.2.2.1 i) :: st) S im := fun H ls locs h1 h2 h3 => by
  obtain ⟨cf, k, j, f, cell, g1, g2, g3, g4, g5, g6⟩ := (C.2.2.2.2.2.2.2.2.1.2.2.2.1.1.1 i hi).2.2.1
  exact W.getf C.1 C.2.1 C.2.2.2.1 (C.2.2.2.2.1 _ wf_J0_9) g1 g2 (by rw [h2.2.2.1 _ (by unfold bs at g6; omega)]; exact g3) g4 g5 rfl rfl hd (kk H ls locs h1 h2 h3)
theorem z_scod (C : Cx E κ cc nL RJ0 ret d Rc Rs nm) {i : Nat} (hd : decode cc pc = .ok (.getfield 15, 3)) (hi : i < 6) (kk : V E κ nL cells slots (pc + 3) L (.int (nI 0) :: st) S im) : V E κ nL cells slots pc L (.ref (E.2.2.2.2.1 i) :: st) S im := fun H ls locs h1 h2 h3 => by
  obtain ⟨cf, k, j, f, cell, g1, g2, g3, g4, g5, g6⟩ := (C.2.2.2.2.2.2.2.2.1.2.2.2.1.1.1 i hi).2.1
  exact W.getf (v := .int (nI 0)) C.1 C.2.1 C.2.2.2.1 (C.2.2.2.2.1 _ wf_J0_15) g1 g2 (by rw [h2.2.2.1 _ (by unfold bs at g6; omega)]; exact g3) g4 g5 rfl rfl hd (kk H ls locs h1 h2 h3)
theorem z_scs (C : Cx E κ cc nL RJ0 ret d Rc Rs nm) (hd : decode cc pc = .ok (.getstatic 38, 3)) (kk : V E κ nL cells slots (pc + 3) L (.int (nI 1) :: st) S im) : V E κ nL cells slots pc L st S im := fun H ls locs h1 h2 h3 => by
  obtain ⟨cf, kf, fi, f, a, cell, g1, g2, g3, g4, g5, g6, g7, g8⟩ := C.2.2.2.2.2.2.2.2.1.2.2.2.2.1
  exact W.gets (v := .int (nI 1)) C.1 C.2.1 C.2.2.2.1 (C.2.2.2.2.1 _ wf_J0_38) g1 g2 g3 g4 (by rw [h2.2.2.1 a (by unfold bs at g8; omega)]; exact g5) (fun e => by rw [e] at g6; cases g6) g7 rfl hd (kk H ls locs h1 h2 h3)
theorem z_ssi (C : Cx E κ cc nL RJ0 ret d Rc Rs nm) (hd : decode cc pc = .ok (.getstatic 1053, 3)) (k0 : V E κ nL cells slots (pc + 3) L (.null :: st) S im) (k1 : ∀ t, V E κ nL cells slots (pc + 3) L (.ref t :: st) S im) : V E κ nL cells slots pc L st S im := fun H ls locs h1 h2 h3 => by
  rcases C.2.2.2.2.2.2.2.2.1.2.2.2.2.2 with ⟨cf, kf, fi, f, a, cell, g1, g2, g3, g4, g5, g6, g7, g8⟩ | ⟨t, cf, kf, fi, f, a, cell, g1, g2, g3, g4, g5, g6, g7, g8⟩
  · exact W.gets C.1 C.2.1 C.2.2.2.1 (C.2.2.2.2.1 _ wf_J0_1053) g1 g2 g3 g4 (by rw [h2.2.2.1 a (by unfold bs at g8; omega)]; exact g5) (fun e => by rw [e] at g6; cases g6) g7 rfl hd (k0 H ls locs h1 h2 h3)
  · exact W.gets C.1 C.2.1 C.2.2.2.1 (C.2.2.2.2.1 _ wf_J0_1053) g1 g2 g3 g4 (by rw [h2.2.2.1 a (by unfold bs at g8; omega)]; exact g5) (fun e => by rw [e] at g6; cases g6) g7 rfl hd (k1 t H ls locs h1 h2 h3)
theorem z_sal (C : Cx E κ cc nL own ret d Rc Rs nm) {i : Nat} (hd : decode cc pc = .ok (.arraylength, 1)) (hi : i < 6) (kk : V E κ nL cells slots (pc + 1) L (.int (nI (lenS.getD i 0)) :: st) S im) : V E κ nL cells slots pc L (.ref (E.2.2.2.2.2.1 i) :: st) S im := fun H ls locs h1 h2 h3 => by
  obtain ⟨cell, g1, g2, g3, g4, g5, g6, g7⟩ := (C.2.2.2.2.2.2.2.2.1.2.2.2.1.1.1 i hi).2.2.2
  exact W.alen (n := Int32.ofNat (lenS.getD i 0)) C.1 C.2.1 (by rw [h2.2.2.1 _ (by unfold bs at g7; omega)]; exact g1) g2 g5 rfl rfl hd (kk H ls locs h1 h2 h3)
theorem z_sbl (C : Cx E κ cc nL own ret d Rc Rs nm) {i x : Nat} (hd : decode cc pc = .ok (.baload, 1)) (hi : i < 6) (hx : x < lenS.getD i 0) (kk : V E κ nL cells slots (pc + 1) L (.int ((bytS.getD i []).getD x 0) :: st) S im) : V E κ nL cells slots pc L (.int (nI x) :: .ref (E.2.2.2.2.2.1 i) :: st) S im := fun H ls locs h1 h2 h3 => by
  obtain ⟨cell, g1, g2, g3, g4, g5, g6, g7⟩ := (C.2.2.2.2.2.2.2.2.1.2.2.2.1.1.1 i hi).2.2.2
  have hl : lenS.getD i 0 ≤ 4 := by rcases (show i = 0 ∨ i = 1 ∨ i = 2 ∨ i = 3 ∨ i = 4 ∨ i = 5 by omega) with rfl | rfl | rfl | rfl | rfl | rfl <;> decide
  have hin' : ¬ (nI x < 0 ∨ cell.slots.size ≤ (nI x).toNatClampNeg) := by
    intro q
    rcases q with q | q
    · exact nI_pos (by omega) q
    · rw [nI_clamp (by omega)] at q; omega
  exact W.bald (v := .int ((bytS.getD i []).getD x 0)) C.1 C.2.1 (by rw [h2.2.2.1 _ (by unfold bs at g7; omega)]; exact g1) g2 g3 hin' (by rw [nI_clamp (by omega), g6 _ hx]) rfl rfl hd (kk H ls locs h1 h2 h3)
end ZSS
theorem len4 {i : Nat} (hi : i < 6) : lenS.getD i 0 ≤ 4 := by rcases (show i = 0 ∨ i = 1 ∨ i = 2 ∨ i = 3 ∨ i = 4 ∨ i = 5 by omega) with rfl | rfl | rfl | rfl | rfl | rfl <;> decide
def chS (i k : Nat) : Int32 := (bytS.getD i []).getD k 0
theorem ch_val {i k : Nat} (hi : i < 6) (hk : k < lenS.getD i 0) : ∃ j, 97 ≤ j ∧ j ≤ 122 ∧ chS i k = nI j := by
  have h4 := len4 hi
  rcases (show i = 0 ∨ i = 1 ∨ i = 2 ∨ i = 3 ∨ i = 4 ∨ i = 5 by omega) with rfl | rfl | rfl | rfl | rfl | rfl <;> rcases (show k = 0 ∨ k = 1 ∨ k = 2 ∨ k = 3 by omega) with rfl | rfl | rfl | rfl <;> first | exact absurd hk (by decide) | exact ⟨_, by decide, by decide, show chS _ _ = nI 98 from by decide⟩ | exact ⟨_, by decide, by decide, show chS _ _ = nI 117 from by decide⟩ | exact ⟨_, by decide, by decide, show chS _ _ = nI 114 from by decide⟩ | exact ⟨_, by decide, by decide, show chS _ _ = nI 110 from by decide⟩ | exact ⟨_, by decide, by decide, show chS _ _ = nI 102 from by decide⟩ | exact ⟨_, by decide, by decide, show chS _ _ = nI 101 from by decide⟩ | exact ⟨_, by decide, by decide, show chS _ _ = nI 105 from by decide⟩ | exact ⟨_, by decide, by decide, show chS _ _ = nI 111 from by decide⟩ | exact ⟨_, by decide, by decide, show chS _ _ = nI 119 from by decide⟩ | exact ⟨_, by decide, by decide, show chS _ _ = nI 115 from by decide⟩ | exact ⟨_, by decide, by decide, show chS _ _ = nI 112 from by decide⟩ | exact ⟨_, by decide, by decide, show chS _ _ = nI 100 from by decide⟩
theorem chr_ok {j : Nat} (h : j < 128) : ((nI j &&& nI 255).toUInt32 % 65536).toInt32 = nI j := by
  have hd : ∀ j : Fin 128, ((nI j &&& nI 255).toUInt32 % 65536).toInt32 = nI j := by decide +kernel
  exact hd ⟨j, h⟩
theorem i2c_ok {j : Nat} (h : j < 128) : ((nI j).toUInt32 % 65536).toInt32 = nI j := by
  have hd : ∀ j : Fin 128, ((nI j).toUInt32 % 65536).toInt32 = nI j := by decide +kernel
  exact hd ⟨j, h⟩
theorem i2b_ok {j : Nat} (h : j < 128) : (nI j).toInt8.toInt32 = nI j := by
  have hd : ∀ j : Fin 128, (nI j).toInt8.toInt32 = nI j := by decide +kernel
  exact hd ⟨j, h⟩
set_option maxRecDepth 100000 in
set_option maxHeartbeats 4000000 in
theorem j0_coder (l : Launch) (E : Ex) (S : Sx) (im : Mem) (i : Nat) (hi : i < 6)  : Mt l E yJ0_coder_7d493 cJ0_coder_7d493 1 (some .byte) 1 0 0 [.ref (E.2.2.2.2.1 i)] S im (pI (pE S im (nI 0))) := by
  refine Mt.of (by decide +kernel) rfl rfl (Nat.le_of_ble_eq_true rfl) ?_
  intro κ hκ C ρ
  subst hκ
  show V E κ 1 0 0 0 [some (.ref (E.2.2.2.2.1 i))] [] S im
  refine z_scs (pc := 0) C dJ0_coder_7d493_0 ?_
  refine z_if_eqF (pc := 3) C 13 dJ0_coder_7d493_3 (by decide) (by decide) ?_
  refine z_aload_n (pc := 6) C dJ0_coder_7d493_6 rfl ?_
  refine z_scod (pc := 7) C dJ0_coder_7d493_7 hi ?_
  refine z_goto (pc := 10) C 14 dJ0_coder_7d493_10 (by decide) ?_
  exact z_bret (pc := 14) C ρ dJ0_coder_7d493_14 (by decide +kernel) (⟨_, rfl, rfl, rfl, rfl⟩)
set_option maxRecDepth 100000 in
set_option maxHeartbeats 4000000 in
theorem j0_isLatin1 (l : Launch) (E : Ex) (S : Sx) (im : Mem) (i : Nat) (hi : i < 6)  : Mt l E yJ0_isLatin1_aae02 cJ0_isLatin1_aae02 1 (some .boolean) 1 0 0 [.ref (E.2.2.2.2.1 i)] S im (pI (pE S im (nI 1))) := by
  refine Mt.of (by decide +kernel) rfl rfl (Nat.le_of_ble_eq_true rfl) ?_
  intro κ hκ C ρ
  subst hκ
  show V E κ 1 0 0 0 [some (.ref (E.2.2.2.2.1 i))] [] S im
  refine z_scs (pc := 0) C dJ0_isLatin1_aae02_0 ?_
  refine z_if_eqF (pc := 3) C 17 dJ0_isLatin1_aae02_3 (by decide) (by decide) ?_
  refine z_aload_n (pc := 6) C dJ0_isLatin1_aae02_6 rfl ?_
  refine z_scod (pc := 7) C dJ0_isLatin1_aae02_7 hi ?_
  refine z_if_neF (pc := 10) C 17 dJ0_isLatin1_aae02_10 (by decide) (by decide) ?_
  refine z_iconstN (pc := 13) C 1 dJ0_isLatin1_aae02_13 ?_
  refine z_goto (pc := 14) C 18 dJ0_isLatin1_aae02_14 (by decide) ?_
  exact z_zret (pc := 18) C ρ dJ0_isLatin1_aae02_18 (by decide) (⟨_, rfl, rfl, rfl, rfl⟩)
set_option maxRecDepth 100000 in
set_option maxHeartbeats 4000000 in
theorem j0_length (l : Launch) (E : Ex) (S : Sx) (im : Mem) (i : Nat) (hi : i < 6)  : Mt l E yJ0_length_8abf5 cJ0_length_8abf5 1 (some .int) 2 0 0 [.ref (E.2.2.2.2.1 i)] S im (pI (pE S im (nI (lenS.getD i 0)))) := by
  refine Mt.of (by decide +kernel) rfl rfl (Nat.le_of_ble_eq_true rfl) ?_
  intro κ hκ C ρ
  subst hκ
  show V E κ 1 0 0 0 [some (.ref (E.2.2.2.2.1 i))] [] S im
  refine z_aload_n (pc := 0) C dJ0_length_8abf5_0 rfl ?_
  refine z_sval (pc := 1) C dJ0_length_8abf5_1 hi ?_
  refine z_sal (pc := 4) C dJ0_length_8abf5_4 hi ?_
  refine z_aload_n (pc := 5) C dJ0_length_8abf5_5 rfl ?_
  refine z_cVS (pc := 6) (y := yJ0_coder_7d493) (As := []) (rest := [.int (nI (lenS.getD i 0))]) (i := i) C hi rfl dJ0_length_8abf5_6 (j0_coder κ.2.1 E S im i hi) wm_J0_335 wi_J0_coder_7d493 ws_J0_J0_coder_7d493 wn_J0 wc_J0_coder_7d493 (show yJ0_coder_7d493.cls ≠ "java/lang/invoke/MethodHandle" ∧ yJ0_coder_7d493.cls ≠ "java/lang/invoke/VarHandle" ∧ (parseMethodDescriptor yJ0_coder_7d493.desc).map (fun d => d.parameters.length) = some 0 by decide +kernel) (by decide) (by decide) rfl (Nat.le_of_ble_eq_true rfl) (Nat.le_refl _) (Nat.le_refl _) (fun r_6 S_6 im_6 hr_6 => ?_)
  obtain ⟨v_6, rfl, h_6⟩ := hr_6
  obtain ⟨rfl, rfl, rfl⟩ := h_6
  show V E κ 1 0 0 9 [some (.ref (E.2.2.2.2.1 i))] [.int (nI 0), .int (nI (lenS.getD i 0))] S im
  refine z_ishr (pc := 9) C dJ0_length_8abf5_9 ?_
  refine z_eqi (y := nI (lenS.getD i 0)) (by have h4 := len4 hi; rw [pk_shrN (by omega) _ 0 (by decide +kernel)]; simp) ?_
  exact z_iret (pc := 10) C ρ dJ0_length_8abf5_10 (⟨_, rfl, rfl, rfl, rfl⟩)
set_option maxRecDepth 100000 in
set_option maxHeartbeats 4000000 in
theorem j3_check_null (l : Launch) (E : Ex) (S : Sx) (im : Mem) (k m : Nat) (hk : k < m) (hm : m < 1000) : Mt l E yJ3_checkIndex_8e157 cJ3_checkIndex_8e157 3 (some .int) 1 0 0 [.int (nI k), .int (nI m), .null] S im (pI (pE S im (nI k))) := by
  refine Mt.of (by decide +kernel) rfl rfl (Nat.le_of_ble_eq_true rfl) ?_
  intro κ hκ C ρ
  subst hκ
  show V E κ 3 0 0 0 [some (.int (nI k)), some (.int (nI m)), some (.null)] [] S im
  refine z_iload_n (pc := 0) C dJ3_checkIndex_8e157_0 rfl ?_
  refine z_if_ltF (pc := 1) C 9 dJ3_checkIndex_8e157_1 (by decide) (nI_pos (by omega)) ?_
  refine z_iload_n (pc := 4) C dJ3_checkIndex_8e157_4 rfl ?_
  refine z_iload_n (pc := 5) C dJ3_checkIndex_8e157_5 rfl ?_
  refine z_icmp_ltT (pc := 6) C 16 dJ3_checkIndex_8e157_6 (by decide) (nI_lt hk (by omega)) ?_
  refine z_iload_n (pc := 16) C dJ3_checkIndex_8e157_16 rfl ?_
  exact z_iret (pc := 17) C ρ dJ3_checkIndex_8e157_17 (⟨_, rfl, rfl, rfl, rfl⟩)
set_option maxRecDepth 100000 in
set_option maxHeartbeats 4000000 in
theorem j3_check_ref (l : Launch) (E : Ex) (S : Sx) (im : Mem) (k m : Nat) (hk : k < m) (hm : m < 1000) (t : Nat) : Mt l E yJ3_checkIndex_8e157 cJ3_checkIndex_8e157 3 (some .int) 1 0 0 [.int (nI k), .int (nI m), .ref t] S im (pI (pE S im (nI k))) := by
  refine Mt.of (by decide +kernel) rfl rfl (Nat.le_of_ble_eq_true rfl) ?_
  intro κ hκ C ρ
  subst hκ
  show V E κ 3 0 0 0 [some (.int (nI k)), some (.int (nI m)), some (.ref t)] [] S im
  refine z_iload_n (pc := 0) C dJ3_checkIndex_8e157_0 rfl ?_
  refine z_if_ltF (pc := 1) C 9 dJ3_checkIndex_8e157_1 (by decide) (nI_pos (by omega)) ?_
  refine z_iload_n (pc := 4) C dJ3_checkIndex_8e157_4 rfl ?_
  refine z_iload_n (pc := 5) C dJ3_checkIndex_8e157_5 rfl ?_
  refine z_icmp_ltT (pc := 6) C 16 dJ3_checkIndex_8e157_6 (by decide) (nI_lt hk (by omega)) ?_
  refine z_iload_n (pc := 16) C dJ3_checkIndex_8e157_16 rfl ?_
  exact z_iret (pc := 17) C ρ dJ3_checkIndex_8e157_17 (⟨_, rfl, rfl, rfl, rfl⟩)
set_option maxRecDepth 100000 in
set_option maxHeartbeats 4000000 in
theorem j0_check (l : Launch) (E : Ex) (S : Sx) (im : Mem) (k m : Nat) (hk : k < m) (hm : m < 1000) : Mt l E yJ0_checkIndex_df160 cJ0_checkIndex_df160 2 none 2 0 0 [.int (nI k), .int (nI m)] S im (pV (pM S im)) := by
  refine Mt.of (by decide +kernel) rfl rfl (Nat.le_of_ble_eq_true rfl) ?_
  intro κ hκ C ρ
  subst hκ
  show V E κ 2 0 0 0 [some (.int (nI k)), some (.int (nI m))] [] S im
  refine z_iload_n (pc := 0) C dJ0_checkIndex_df160_0 rfl ?_
  refine z_iload_n (pc := 1) C dJ0_checkIndex_df160_1 rfl ?_
  refine z_ssi (pc := 2) C dJ0_checkIndex_df160_2 ?_ (fun t => ?_)
  · refine kJ0_1059 (pc := 5) C dJ0_checkIndex_df160_5 (j3_check_null κ.2.1 E S im k m hk hm) (by decide) (Nat.le_of_ble_eq_true rfl) (Nat.le_refl _) (Nat.le_refl _) (fun v_5 S_5 im_5 h_5 => ?_)
    obtain ⟨rfl, rfl, rfl⟩ := h_5
    refine z_pop (pc := 8) C dJ0_checkIndex_df160_8 rfl ?_
    exact z_vret (pc := 9) C ρ dJ0_checkIndex_df160_9 (⟨rfl, rfl, rfl⟩)
  · refine kJ0_1059 (pc := 5) C dJ0_checkIndex_df160_5 (j3_check_ref κ.2.1 E S im k m hk hm t) (by decide) (Nat.le_of_ble_eq_true rfl) (Nat.le_refl _) (Nat.le_refl _) (fun v_5 S_5 im_5 h_5 => ?_)
    obtain ⟨rfl, rfl, rfl⟩ := h_5
    refine z_pop (pc := 8) C dJ0_checkIndex_df160_8 rfl ?_
    exact z_vret (pc := 9) C ρ dJ0_checkIndex_df160_9 (⟨rfl, rfl, rfl⟩)
set_option maxRecDepth 100000 in
set_option maxHeartbeats 4000000 in
theorem j1_charAt (l : Launch) (E : Ex) (S : Sx) (im : Mem) (i : Nat) (hi : i < 6) (k : Nat) (hk : k < lenS.getD i 0) : Mt l E yJ1_charAt_3b067 cJ1_charAt_3b067 2 (some .char) 3 0 0 [.ref (E.2.2.2.2.2.1 i), .int (nI k)] S im (pI (pE S im (chS i k))) := by
  refine Mt.of (by decide +kernel) rfl rfl (Nat.le_of_ble_eq_true rfl) ?_
  intro κ hκ C ρ
  subst hκ
  show V E κ 2 0 0 0 [some (.ref (E.2.2.2.2.2.1 i)), some (.int (nI k))] [] S im
  refine z_iload_n (pc := 0) C dJ1_charAt_3b067_0 rfl ?_
  refine z_aload_n (pc := 1) C dJ1_charAt_3b067_1 rfl ?_
  refine z_sal (pc := 2) C dJ1_charAt_3b067_2 hi ?_
  refine kJ1_9 (pc := 3) C dJ1_charAt_3b067_3 (j0_check κ.2.1 E S im k (lenS.getD i 0) hk (by have := len4 hi; omega)) (by decide) (Nat.le_of_ble_eq_true rfl) (Nat.le_refl _) (Nat.le_refl _) (fun S_3 im_3 h_3 => ?_)
  obtain ⟨rfl, rfl⟩ := h_3
  refine z_aload_n (pc := 6) C dJ1_charAt_3b067_6 rfl ?_
  refine z_iload_n (pc := 7) C dJ1_charAt_3b067_7 rfl ?_
  refine z_sbl (pc := 8) C dJ1_charAt_3b067_8 hi (hk) ?_
  refine z_sipush (v := nI 255) (pc := 9) C dJ1_charAt_3b067_9 (by decide +kernel) ?_
  refine z_iand (pc := 12) C dJ1_charAt_3b067_12 ?_
  refine z_i2c (pc := 13) C dJ1_charAt_3b067_13 ?_
  obtain ⟨j, h1, h2, e⟩ := ch_val hi hk
  refine z_eqi (y := chS i k) (by show ((chS i k &&& nI 255).toUInt32 % 65536).toInt32 = _; rw [e]; exact chr_ok (by omega)) ?_
  exact z_cret (pc := 14) C ρ dJ1_charAt_3b067_14 (by rw [e]; exact (pk_charN (by omega)).1) (⟨_, rfl, rfl, rfl, rfl⟩)
set_option maxRecDepth 100000 in
set_option maxHeartbeats 4000000 in
theorem j0_charAt (l : Launch) (E : Ex) (S : Sx) (im : Mem) (i : Nat) (hi : i < 6) (k : Nat) (hk : k < lenS.getD i 0) : Mt l E yJ0_charAt_5068e cJ0_charAt_5068e 2 (some .char) 4 0 0 [.ref (E.2.2.2.2.1 i), .int (nI k)] S im (pI (pE S im (chS i k))) := by
  refine Mt.of (by decide +kernel) rfl rfl (Nat.le_of_ble_eq_true rfl) ?_
  intro κ hκ C ρ
  subst hκ
  show V E κ 2 0 0 0 [some (.ref (E.2.2.2.2.1 i)), some (.int (nI k))] [] S im
  refine z_aload_n (pc := 0) C dJ0_charAt_5068e_0 rfl ?_
  refine z_cVS (pc := 1) (y := yJ0_isLatin1_aae02) (As := []) (rest := []) (i := i) C hi rfl dJ0_charAt_5068e_1 (j0_isLatin1 κ.2.1 E S im i hi) wm_J0_492 wi_J0_isLatin1_aae02 ws_J0_J0_isLatin1_aae02 wn_J0 wc_J0_isLatin1_aae02 (show yJ0_isLatin1_aae02.cls ≠ "java/lang/invoke/MethodHandle" ∧ yJ0_isLatin1_aae02.cls ≠ "java/lang/invoke/VarHandle" ∧ (parseMethodDescriptor yJ0_isLatin1_aae02.desc).map (fun d => d.parameters.length) = some 0 by decide +kernel) (by decide) (by decide) rfl (Nat.le_of_ble_eq_true rfl) (Nat.le_refl _) (Nat.le_refl _) (fun r_1 S_1 im_1 hr_1 => ?_)
  obtain ⟨v_1, rfl, h_1⟩ := hr_1
  obtain ⟨rfl, rfl, rfl⟩ := h_1
  show V E κ 2 0 0 4 [some (.ref (E.2.2.2.2.1 i)), some (.int (nI k))] [.int (nI 1)] S im
  refine z_if_eqF (pc := 4) C 16 dJ0_charAt_5068e_4 (by decide) (by decide) ?_
  refine z_aload_n (pc := 7) C dJ0_charAt_5068e_7 rfl ?_
  refine z_sval (pc := 8) C dJ0_charAt_5068e_8 hi ?_
  refine z_iload_n (pc := 11) C dJ0_charAt_5068e_11 rfl ?_
  refine kJ0_495 (pc := 12) C dJ0_charAt_5068e_12 (j1_charAt κ.2.1 E S im i hi k hk) (by decide) (Nat.le_of_ble_eq_true rfl) (Nat.le_refl _) (Nat.le_refl _) (fun v_12 S_12 im_12 h_12 => ?_)
  obtain ⟨rfl, rfl, rfl⟩ := h_12
  obtain ⟨j, h1, h2, e⟩ := ch_val hi hk
  exact z_cret (pc := 15) C ρ dJ0_charAt_5068e_15 (by rw [e]; exact (pk_charN (by omega)).1) (⟨_, rfl, rfl, rfl, rfl⟩)
set_option maxRecDepth 100000 in
set_option maxHeartbeats 4000000 in
theorem j1_canEncode (l : Launch) (E : Ex) (S : Sx) (im : Mem) (j : Nat) (hj : j < 128) : Mt l E yJ1_canEncode_9a6ad cJ1_canEncode_9a6ad 1 (some .boolean) 1 0 0 [.int (nI j)] S im (pI (pE S im (nI 1))) := by
  refine Mt.of (by decide +kernel) rfl rfl (Nat.le_of_ble_eq_true rfl) ?_
  intro κ hκ C ρ
  subst hκ
  show V E κ 1 0 0 0 [some (.int (nI j))] [] S im
  refine z_iload_n (pc := 0) C dJ1_canEncode_9a6ad_0 rfl ?_
  refine z_if_ltF (pc := 1) C 15 dJ1_canEncode_9a6ad_1 (by decide) (nI_pos (by omega)) ?_
  refine z_iload_n (pc := 4) C dJ1_canEncode_9a6ad_4 rfl ?_
  refine z_sipush (v := nI 255) (pc := 5) C dJ1_canEncode_9a6ad_5 (by decide +kernel) ?_
  refine z_icmp_gtF (pc := 8) C 15 dJ1_canEncode_9a6ad_8 (by decide) (nI_nlt (by omega) (by omega)) ?_
  refine z_iconstN (pc := 11) C 1 dJ1_canEncode_9a6ad_11 ?_
  refine z_goto (pc := 12) C 16 dJ1_canEncode_9a6ad_12 (by decide) ?_
  exact z_zret (pc := 16) C ρ dJ1_canEncode_9a6ad_16 (by decide) (⟨_, rfl, rfl, rfl, rfl⟩)
/-- the place of a character; r places are left from k on -/
def s_ix (i : Nat) (x : Int32) : Nat → Nat → Int32
  | 0, _ => -1
  | r + 1, k => if chS i k = x then nI k else s_ix i x r (k + 1)
set_option maxRecDepth 100000 in
set_option maxHeartbeats 4000000 in
theorem j1_indexOfChar (l : Launch) (E : Ex) (S : Sx) (im : Mem) (i : Nat) (hi : i < 6) (j : Nat) (hj : j < 128)  : Mt l E yJ1_indexOfChar_4cfef cJ1_indexOfChar_4cfef 6 (some .int) 1 0 0 [.ref (E.2.2.2.2.2.1 i), .int (nI j), .int (nI 0), .int (nI (lenS.getD i 0))] S im (pI (pE S im (s_ix i (nI j) (lenS.getD i 0) 0))) := by
  refine Mt.of (by decide +kernel) rfl rfl (Nat.le_of_ble_eq_true rfl) ?_
  intro κ hκ C ρ
  subst hκ
  show V E κ 6 0 0 0 [some (.ref (E.2.2.2.2.2.1 i)), some (.int (nI j)), some (.int (nI 0)), some (.int (nI (lenS.getD i 0))), none, none] [] S im
  have h4 := len4 hi
  have loop : ∀ (r k : Nat), k + r = lenS.getD i 0 → s_ix i (nI j) (lenS.getD i 0) 0 = s_ix i (nI j) r k → V E κ 6 0 0 7 [some (.ref (E.2.2.2.2.2.1 i)), some (.int (nI j)), some (.int (nI 0)), some (.int (nI (lenS.getD i 0))), some (.int (nI j)), some (.int (nI k))] [] S im := by
    intro r
    induction r with
    | zero =>
      intro k hk hans
      refine z_iload (pc := 7) C dJ1_indexOfChar_4cfef_7 rfl ?_
      refine z_iload_n (pc := 9) C dJ1_indexOfChar_4cfef_9 rfl ?_
      refine z_icmp_geT (pc := 10) C 31 dJ1_indexOfChar_4cfef_10 (by decide) (nI_le (by omega) (by omega)) ?_
      refine z_iconst (v := -1) (pc := 31) C dJ1_indexOfChar_4cfef_31 (by decide) ?_
      exact z_iret (pc := 32) C ρ dJ1_indexOfChar_4cfef_32 (⟨_, rfl, by rw [hans]; rfl, rfl, rfl⟩)
    | succ r ih =>
      intro k hk hans
      refine z_iload (pc := 7) C dJ1_indexOfChar_4cfef_7 rfl ?_
      refine z_iload_n (pc := 9) C dJ1_indexOfChar_4cfef_9 rfl ?_
      refine z_icmp_geF (pc := 10) C 31 dJ1_indexOfChar_4cfef_10 (by decide) (nI_ge (by omega) (by omega)) ?_
      refine z_aload_n (pc := 13) C dJ1_indexOfChar_4cfef_13 rfl ?_
      refine z_iload (pc := 14) C dJ1_indexOfChar_4cfef_14 rfl ?_
      refine z_sbl (pc := 16) C dJ1_indexOfChar_4cfef_16 hi (by omega) ?_
      refine z_eqi (y := chS i k) rfl ?_
      refine z_iload (pc := 17) C dJ1_indexOfChar_4cfef_17 rfl ?_
      refine z_icmp_ne (pc := 19) C 25 dJ1_indexOfChar_4cfef_19 (by decide) (fun c_19 => ?_) (fun c_19 => ?_)
      · 
        refine z_iincN (pc := 25) C 1 dJ1_indexOfChar_4cfef_25 rfl (by decide) rfl ?_
        refine z_goto (pc := 28) C 7 dJ1_indexOfChar_4cfef_28 (by decide) ?_
        exact ih (k + 1) (by omega) (by rw [hans, s_ix, if_neg c_19])
      · 
        refine z_iload (pc := 22) C dJ1_indexOfChar_4cfef_22 rfl ?_
        exact z_iret (pc := 24) C ρ dJ1_indexOfChar_4cfef_24 (⟨_, rfl, by rw [hans, s_ix, if_pos c_19], rfl, rfl⟩)
  refine z_iload_n (pc := 0) C dJ1_indexOfChar_4cfef_0 rfl ?_
  refine z_i2b (pc := 1) C dJ1_indexOfChar_4cfef_1 ?_
  refine z_eqi (y := nI j) (i2b_ok hj) ?_
  refine z_istore (pc := 2) C dJ1_indexOfChar_4cfef_2 (by decide) rfl ?_
  refine z_iload_n (pc := 4) C dJ1_indexOfChar_4cfef_4 rfl ?_
  refine z_istore (pc := 5) C dJ1_indexOfChar_4cfef_5 (by decide) rfl ?_
  exact loop (lenS.getD i 0) 0 (by omega) rfl
set_option maxRecDepth 100000 in
set_option maxHeartbeats 4000000 in
theorem j1_indexOf (l : Launch) (E : Ex) (S : Sx) (im : Mem) (i : Nat) (hi : i < 6) (j : Nat) (hj : j < 128)  : Mt l E yJ1_indexOf_4cfef cJ1_indexOf_4cfef 4 (some .int) 2 0 0 [.ref (E.2.2.2.2.2.1 i), .int (nI j), .int (nI 0), .int (nI (lenS.getD i 0))] S im (pI (pE S im (s_ix i (nI j) (lenS.getD i 0) 0))) := by
  refine Mt.of (by decide +kernel) rfl rfl (Nat.le_of_ble_eq_true rfl) ?_
  intro κ hκ C ρ
  subst hκ
  show V E κ 4 0 0 0 [some (.ref (E.2.2.2.2.2.1 i)), some (.int (nI j)), some (.int (nI 0)), some (.int (nI (lenS.getD i 0)))] [] S im
  refine z_iload_n (pc := 0) C dJ1_indexOf_4cfef_0 rfl ?_
  refine kJ1_88 (pc := 1) C dJ1_indexOf_4cfef_1 (j1_canEncode κ.2.1 E S im j hj) (by decide) (Nat.le_of_ble_eq_true rfl) (Nat.le_refl _) (Nat.le_refl _) (fun v_1 S_1 im_1 h_1 => ?_)
  obtain ⟨rfl, rfl, rfl⟩ := h_1
  refine z_if_neT (pc := 4) C 9 dJ1_indexOf_4cfef_4 (by decide) (by decide) ?_
  refine z_iload_n (pc := 9) C dJ1_indexOf_4cfef_9 rfl ?_
  refine z_iconstN (pc := 10) C 0 dJ1_indexOf_4cfef_10 ?_
  refine z_max (pc := 11) C dJ1_indexOf_4cfef_11 wm_J1_92 (by decide) (Nat.le_of_ble_eq_true rfl) (Nat.zero_le _) (Nat.zero_le _) ?_
  refine z_eqi (y := nI 0) (by decide) ?_
  refine z_istore_n (pc := 14) C dJ1_indexOf_4cfef_14 (by decide) rfl ?_
  refine z_iload_n (pc := 15) C dJ1_indexOf_4cfef_15 rfl ?_
  refine z_aload_n (pc := 16) C dJ1_indexOf_4cfef_16 rfl ?_
  refine z_sal (pc := 17) C dJ1_indexOf_4cfef_17 hi ?_
  refine z_min (pc := 18) C dJ1_indexOf_4cfef_18 wm_J1_38 (by decide) (Nat.le_of_ble_eq_true rfl) (Nat.zero_le _) (Nat.zero_le _) ?_
  refine z_eqi (y := nI (lenS.getD i 0)) (by rw [if_neg (nI_nlt (Nat.le_refl _) (by have := len4 hi; omega))]) ?_
  refine z_istore_n (pc := 21) C dJ1_indexOf_4cfef_21 (by decide) rfl ?_
  refine z_iload_n (pc := 22) C dJ1_indexOf_4cfef_22 rfl ?_
  refine z_iload_n (pc := 23) C dJ1_indexOf_4cfef_23 rfl ?_
  refine z_icmp_ltT (pc := 24) C 29 dJ1_indexOf_4cfef_24 (by decide) (nI_lt (by rcases (show i = 0 ∨ i = 1 ∨ i = 2 ∨ i = 3 ∨ i = 4 ∨ i = 5 by omega) with rfl | rfl | rfl | rfl | rfl | rfl <;> decide) (by have := len4 hi; omega)) ?_
  refine z_aload_n (pc := 29) C dJ1_indexOf_4cfef_29 rfl ?_
  refine z_iload_n (pc := 30) C dJ1_indexOf_4cfef_30 rfl ?_
  refine z_iload_n (pc := 31) C dJ1_indexOf_4cfef_31 rfl ?_
  refine z_iload_n (pc := 32) C dJ1_indexOf_4cfef_32 rfl ?_
  refine kJ1_95 (pc := 33) C dJ1_indexOf_4cfef_33 (j1_indexOfChar κ.2.1 E S im i hi j hj) (by decide) (Nat.le_of_ble_eq_true rfl) (Nat.le_refl _) (Nat.le_refl _) (fun v_33 S_33 im_33 h_33 => ?_)
  obtain ⟨rfl, rfl, rfl⟩ := h_33
  exact z_iret (pc := 36) C ρ dJ1_indexOf_4cfef_36 (⟨_, rfl, rfl, rfl, rfl⟩)
set_option maxRecDepth 100000 in
set_option maxHeartbeats 4000000 in
theorem j0_indexOf2 (l : Launch) (E : Ex) (S : Sx) (im : Mem) (i : Nat) (hi : i < 6) (j : Nat) (hj : j < 128)  : Mt l E yJ0_indexOf_7cf53 cJ0_indexOf_7cf53 3 (some .int) 3 0 0 [.ref (E.2.2.2.2.1 i), .int (nI j), .int (nI 0)] S im (pI (pE S im (s_ix i (nI j) (lenS.getD i 0) 0))) := by
  refine Mt.of (by decide +kernel) rfl rfl (Nat.le_of_ble_eq_true rfl) ?_
  intro κ hκ C ρ
  subst hκ
  show V E κ 3 0 0 0 [some (.ref (E.2.2.2.2.1 i)), some (.int (nI j)), some (.int (nI 0))] [] S im
  refine z_aload_n (pc := 0) C dJ0_indexOf_7cf53_0 rfl ?_
  refine z_cVS (pc := 1) (y := yJ0_isLatin1_aae02) (As := []) (rest := []) (i := i) C hi rfl dJ0_indexOf_7cf53_1 (j0_isLatin1 κ.2.1 E S im i hi) wm_J0_492 wi_J0_isLatin1_aae02 ws_J0_J0_isLatin1_aae02 wn_J0 wc_J0_isLatin1_aae02 (show yJ0_isLatin1_aae02.cls ≠ "java/lang/invoke/MethodHandle" ∧ yJ0_isLatin1_aae02.cls ≠ "java/lang/invoke/VarHandle" ∧ (parseMethodDescriptor yJ0_isLatin1_aae02.desc).map (fun d => d.parameters.length) = some 0 by decide +kernel) (by decide) (by decide) rfl (Nat.le_of_ble_eq_true rfl) (Nat.le_refl _) (Nat.le_refl _) (fun r_1 S_1 im_1 hr_1 => ?_)
  obtain ⟨v_1, rfl, h_1⟩ := hr_1
  obtain ⟨rfl, rfl, rfl⟩ := h_1
  show V E κ 3 0 0 4 [some (.ref (E.2.2.2.2.1 i)), some (.int (nI j)), some (.int (nI 0))] [.int (nI 1)] S im
  refine z_if_eqF (pc := 4) C 23 dJ0_indexOf_7cf53_4 (by decide) (by decide) ?_
  refine z_aload_n (pc := 7) C dJ0_indexOf_7cf53_7 rfl ?_
  refine z_sval (pc := 8) C dJ0_indexOf_7cf53_8 hi ?_
  refine z_iload_n (pc := 11) C dJ0_indexOf_7cf53_11 rfl ?_
  refine z_iload_n (pc := 12) C dJ0_indexOf_7cf53_12 rfl ?_
  refine z_aload_n (pc := 13) C dJ0_indexOf_7cf53_13 rfl ?_
  refine z_cVS (pc := 14) (y := yJ0_length_8abf5) (As := []) (rest := [.int (nI 0), .int (nI j), .ref (E.2.2.2.2.2.1 i)]) (i := i) C hi rfl dJ0_indexOf_7cf53_14 (j0_length κ.2.1 E S im i hi) wm_J0_505 wi_J0_length_8abf5 ws_J0_J0_length_8abf5 wn_J0 wc_J0_length_8abf5 (show yJ0_length_8abf5.cls ≠ "java/lang/invoke/MethodHandle" ∧ yJ0_length_8abf5.cls ≠ "java/lang/invoke/VarHandle" ∧ (parseMethodDescriptor yJ0_length_8abf5.desc).map (fun d => d.parameters.length) = some 0 by decide +kernel) (by decide) (by decide) rfl (Nat.le_of_ble_eq_true rfl) (Nat.le_refl _) (Nat.le_refl _) (fun r_14 S_14 im_14 hr_14 => ?_)
  obtain ⟨v_14, rfl, h_14⟩ := hr_14
  obtain ⟨rfl, rfl, rfl⟩ := h_14
  show V E κ 3 0 0 17 [some (.ref (E.2.2.2.2.1 i)), some (.int (nI j)), some (.int (nI 0))] [.int (nI (lenS.getD i 0)), .int (nI 0), .int (nI j), .ref (E.2.2.2.2.2.1 i)] S im
  refine kJ0_637 (pc := 17) C dJ0_indexOf_7cf53_17 (j1_indexOf κ.2.1 E S im i hi j hj) (by decide) (Nat.le_of_ble_eq_true rfl) (Nat.le_refl _) (Nat.le_refl _) (fun v_17 S_17 im_17 h_17 => ?_)
  obtain ⟨rfl, rfl, rfl⟩ := h_17
  refine z_goto (pc := 20) C 36 dJ0_indexOf_7cf53_20 (by decide) ?_
  exact z_iret (pc := 36) C ρ dJ0_indexOf_7cf53_36 (⟨_, rfl, rfl, rfl, rfl⟩)
set_option maxRecDepth 100000 in
set_option maxHeartbeats 4000000 in
theorem j0_indexOf (l : Launch) (E : Ex) (S : Sx) (im : Mem) (i : Nat) (hi : i < 6) (j : Nat) (hj : j < 128)  : Mt l E yJ0_indexOf_0f7a4 cJ0_indexOf_0f7a4 2 (some .int) 4 0 0 [.ref (E.2.2.2.2.1 i), .int (nI j)] S im (pI (pE S im (s_ix i (nI j) (lenS.getD i 0) 0))) := by
  refine Mt.of (by decide +kernel) rfl rfl (Nat.le_of_ble_eq_true rfl) ?_
  intro κ hκ C ρ
  subst hκ
  show V E κ 2 0 0 0 [some (.ref (E.2.2.2.2.1 i)), some (.int (nI j))] [] S im
  refine z_aload_n (pc := 0) C dJ0_indexOf_0f7a4_0 rfl ?_
  refine z_iload_n (pc := 1) C dJ0_indexOf_0f7a4_1 rfl ?_
  refine z_iconstN (pc := 2) C 0 dJ0_indexOf_0f7a4_2 ?_
  refine z_cVS (pc := 3) (y := yJ0_indexOf_7cf53) (As := [.int (nI j), .int (nI 0)]) (rest := []) (i := i) C hi rfl dJ0_indexOf_0f7a4_3 (j0_indexOf2 κ.2.1 E S im i hi j hj) wm_J0_633 wi_J0_indexOf_7cf53 ws_J0_J0_indexOf_7cf53 wn_J0 wc_J0_indexOf_7cf53 (show yJ0_indexOf_7cf53.cls ≠ "java/lang/invoke/MethodHandle" ∧ yJ0_indexOf_7cf53.cls ≠ "java/lang/invoke/VarHandle" ∧ (parseMethodDescriptor yJ0_indexOf_7cf53.desc).map (fun d => d.parameters.length) = some 2 by decide +kernel) (by decide) (by decide) rfl (Nat.le_of_ble_eq_true rfl) (Nat.le_refl _) (Nat.le_refl _) (fun r_3 S_3 im_3 hr_3 => ?_)
  obtain ⟨v_3, rfl, h_3⟩ := hr_3
  obtain ⟨rfl, rfl, rfl⟩ := h_3
  show V E κ 2 0 0 6 [some (.ref (E.2.2.2.2.1 i)), some (.int (nI j))] [.int (s_ix i (nI j) (lenS.getD i 0) 0)] S im
  exact z_iret (pc := 6) C ρ dJ0_indexOf_0f7a4_6 (⟨_, rfl, rfl, rfl, rfl⟩)
