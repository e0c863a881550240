/-! rows: the static row ABOVE, System.arraycopy -/
section ZST
variable {E : Ex} {κ : Kx} {cc : ByteArray} {nL : Nat} {own : String} {ret : Option FieldType} {d Rc Rs : Nat} {nm : String} {cells slots pc : Nat} {L : List (Option Value)} {st : List Value} {S : Sx} {im : Mem}
theorem z_gets (C : Cx E κ cc nL own ret d Rc Rs nm) {ix : Nat} (hd : decode cc pc = .ok (.getstatic ix, 3)) (hw : Cond.fieldLink own ix RX0 "ABOVE" "[I" ∈ tb) (kk : V E κ nL cells slots (pc + 3) L (.ref E.2.2.2.2.2.2 :: st) S im) : V E κ nL cells slots pc L st S im := fun H ls locs h1 h2 h3 => by
  obtain ⟨cf, kf, fi, f, a, cell, g1, g2, g3, g4, g5, g6, g7, g8⟩ := C.2.2.2.2.2.2.2.2.1.2.2.1.1
  exact W.gets C.1 C.2.1 C.2.2.2.1 (C.2.2.2.2.1 _ hw) g1 g2 g3 g4 (by rw [h2.2.2.1 a (by unfold bs at g8; omega)]; exact g5) (fun e => by rw [e] at g6; cases g6) g7 rfl hd (kk H ls locs h1 h2 h3)
theorem z_sald (C : Cx E κ cc nL own ret d Rc Rs nm) {x : Nat} (hd : decode cc pc = .ok (.iaload, 1)) (hx : x < 6) (kk : V E κ nL cells slots (pc + 1) L (.int (([-1, 0, 0, 1, 2, 0] : List Int32).getD x 0) :: st) S im) : V E κ nL cells slots pc L (.int (nI x) :: .ref E.2.2.2.2.2.2 :: st) S im := fun H ls locs h1 h2 h3 => by
  obtain ⟨cell, g1, g2, g3, g4, g5, g6, g7⟩ := C.2.2.2.2.2.2.2.2.1.2.2.1.2
  have hin' : ¬ (nI x < 0 ∨ cell.slots.size ≤ (nI x).toNatClampNeg) := by
    intro q
    rcases q with q | q
    · exact nI_pos (by omega) q
    · rw [nI_clamp (by omega)] at q; omega
  exact W.iald (v := .int (([-1, 0, 0, 1, 2, 0] : List Int32).getD x 0)) C.1 C.2.1 (by rw [h2.2.2.1 _ (by unfold bs at g7; omega)]; exact g1) g2 g3 hin' (by rw [nI_clamp (by omega), g6 _ hx]) rfl rfl hd (kk H ls locs h1 h2 h3)
theorem z_copyi (C : Cx E κ cc nL own ret d Rc Rs nm) {ix a0 a n0 n1 sp dp k : Nat} (hd : decode cc pc = .ok (.invokestatic ix, 3)) (w1 : Cond.methodLink own ix arraycopyName ∈ tb) (hK0 : S.2.1 a0 = 8) (hN0 : S.2.2.1 a0 = n0) (hK : S.2.1 a = 8) (hN : S.2.2.1 a = n1) (h4 : sp + k ≤ n0) (h5 : dp + k ≤ n1) (hn0 : n0 < 2 ^ 31) (hn1 : n1 < 2 ^ 31) (hd1 : 1 ≤ d) (hre : (st.map fun v => v.category).sum ≤ 8)
    (kk : V E κ nL cells slots (pc + 3) L st S (va_up im a (va_cpy (im a0) (im a) sp dp k))) : V E κ nL cells slots pc L (.int (nI k) :: .int (nI dp) :: .ref a :: .int (nI sp) :: .ref a0 :: st) S im := fun H ls locs h1 h2 h3 => by
  have hR := C.2.2.2.2.2.2.2.1
  have hts := C.2.2.2.2.1
  have hKn := C.2.2.2.2.2.2.2.2.1.1
  have hP0 := h2.at (q := a0) (by omega)
  rw [cel_int hK0 (by decide) (by decide), hN0] at hP0
  have hP1 := h2.at (q := a) (by omega)
  rw [cel_int hK (by decide) (by decide), hN] at hP1
  have hB := (h2.2.2.2 a (by omega)).1
  have hc0 : H[a0]? = some (vp_cell (E.2.2.2.1 0) (n0, .inl (im a0))) := hP0 0 _ rfl
  have hc1 : H[a]? = some (vp_cell (E.2.2.2.1 0) (n1, .inl (im a))) := hP1 0 _ rfl
  have nn : ∀ j : Nat, j < 2 ^ 31 → (nI j).toInt = (j : Int) := fun j hj => nI_toInt hj
  have hnf : nativeFrameWords "java/lang/System" "arraycopy" 5 + 11 ≤ 50 := by decide +kernel
  intro T hT X
  obtain ⟨-, k0, hk0, cm0, hkk0⟩ := (hKn.2 0 _ rfl).1 n0 (fun j => .int (im a0 j))
  obtain ⟨-, k1, hk1, cm1, hkk1⟩ := (hKn.2 0 _ rfl).1 n1 (fun j => .int (im a j))
  obtain ⟨vm', X', step⟩ := X.arraycopy C.1 C.2.2.2.1 (hts _ w1) (hts _ wv_arraycopy) (hts _ wt_arraycopy) (hts _ wn_J10) (src := a0) (dst := a) (cs := vp_cell (E.2.2.2.1 0) (n0, .inl (im a0))) (cd := vp_cell (E.2.2.2.1 0) (n1, .inl (im a))) (srcPos := nI sp) (destPos := nI dp) (n := nI k) (by rw [hT]; exact hc0) (by rw [hT]; exact hc1)
    (fun _ h => by cases h) (fun _ h => by cases h) (fun h => by cases h) (fun h => by cases h) hk0 hk1 hkk0 hkk1 (by simp [refKind]) (nI_pos (by omega)) (nI_pos (by omega)) (nI_pos (by omega))
    (by rw [nn sp (by omega), nn k (by omega)]; show ¬ _ > ((arrV _ n0 (fun j => .int (im a0 j))).slots.size : Int); rw [arrV_size]; omega)
    (by rw [nn dp (by omega), nn k (by omega)]; show ¬ _ > ((arrV _ n1 (fun j => .int (im a j))).slots.size : Int); rw [arrV_size]; omega)
    (fun vm₁ _ i hi => by
      have hi' : i < k := by rw [nI_clamp (by omega)] at hi; exact hi
      have e : (vp_cell (E.2.2.2.1 0) (n0, .inl (im a0))).slots.getD ((nI sp).toNatClampNeg + i) .null = .int (im a0 (sp + i)) := by
        show (arrV _ n0 (fun j => .int (im a0 j))).slots.getD _ _ = _
        rw [nI_clamp (by omega), Array.getD_eq_getD_getElem?, arrV_read _ _ (by omega)]
        rfl
      refine ⟨?_, ?_⟩
      · rw [e]; rfl
      · rw [e]; exact trivial)
    (g := F0 κ.2.2.2.2.2.1 pc ls (.int (nI k) :: .int (nI dp) :: .ref a :: .int (nI sp) :: .ref a0 :: st)) rfl (by rw [C.2.2.1]; exact h1.1) (rest := st) rfl (by rw [C.2.1]; exact hd) (by omega) (by show 2 * 0 + _ + _ ≤ _; omega)
  have e1 : copied (vp_cell (E.2.2.2.1 0) (n0, .inl (im a0))) (vp_cell (E.2.2.2.1 0) (n1, .inl (im a))) (nI sp) (nI dp) (nI k) = vp_cell (E.2.2.2.1 0) (n1, .inl (va_cpy (im a0) (im a) sp dp k)) := by
    have := va_copied (fun z => Value.int z) (E.2.2.2.1 0) (E.2.2.2.1 0) (n1 := n1) (dp := dp) (im a0) (im a) h4
    show (vp_cell (E.2.2.2.1 0) (n1, .inl (im a))).storeRun (nI dp).toNatClampNeg ((vp_cell (E.2.2.2.1 0) (n0, .inl (im a0))).stretch (nI sp).toNatClampNeg (nI k).toNatClampNeg) = _
    rw [nI_clamp (by omega), nI_clamp (by omega), nI_clamp (by omega)]
    exact this
  rw [e1] at X' step
  have hl : a < H.size := (Array.getElem?_eq_some_iff.mp hc1).1
  have hheap : ((T.setVm vm').setCell a (vp_cell (E.2.2.2.1 0) (n1, .inl (va_cpy (im a0) (im a) sp dp k)))).heap = H.setIfInBounds a (vp_cell (E.2.2.2.1 0) (n1, .inl (va_cpy (im a0) (im a) sp dp k))) := by rw [← hT]; rfl
  have oq : ∀ q : Nat, q ≠ a → (H.setIfInBounds a (vp_cell (E.2.2.2.1 0) (n1, .inl (va_cpy (im a0) (im a) sp dp k))))[q]? = H[q]? := fun q hq => by simp [Array.getElem?_setIfInBounds, Ne.symm hq]
  obtain ⟨t, a1, b1⟩ := kk _ ls _ h1 (h2.put (q := a) (f := va_cpy (im a0) (im a) sp dp k) (by omega) (by simp) oq (by
      rw [cel_int hK (by decide) (by decide), hN, up_s]
      show (H.setIfInBounds a _)[a]? = some _
      simp [Array.getElem?_setIfInBounds, hl])) (fun q hq => by
      rcases List.mem_append.mp hq with h | h
      · exact h3 q h
      · obtain ⟨z, -, hz⟩ := List.mem_map.mp h
        rw [← hz]
        exact hB) _ hheap X'
  exact ⟨t, step t a1, b1⟩
end ZST
