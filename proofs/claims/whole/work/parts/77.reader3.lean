/-! the class: the descent -/
/-- the reader's state: tape a of T bytes, the key, and σ -/
def PC0 (a : Nat → Int32) (im : Mem) (R T key : Nat) (σ : RS) : Prop := im (R + 1) = a ∧ im R 1 = nI T ∧ (im R 3 = nI (tS a T σ.1) ∧ im R 2 = nI (tK a T σ.1 σ.2.1) ∧ im R 4 = nI (tE a T σ.1)) ∧ im R 5 = nI key ∧ im R 6 = nI σ.2.2.2 ∧ im R 8 = nI σ.2.2.1.length ∧ (∀ i, i < σ.2.2.1.length → im (R + 2) i = cmC (σ.2.2.1.getD i 0)) ∧ σ.1 ≤ T
theorem PC0.tk {a : Nat → Int32} {im : Mem} {R T key : Nat} {σ : RS} (h : PC0 a im R T key σ) : TkC im R T σ.1 σ.2.1 := by
  unfold TkC
  rw [h.1]
  exact h.2.2.1
def frR (R : Nat) (im im' : Mem) : Prop := ∀ c, c ≠ R → c ≠ R + 2 → im' c = im c
theorem frR.rf {R : Nat} {im : Mem} : frR R im im := fun _ _ _ => rfl
theorem frR.tr {R : Nat} {a b c : Mem} (h1 : frR R a b) (h2 : frR R b c) : frR R a c := fun d g1 g2 => (h2 d g1 g2).trans (h1 d g1 g2)
theorem frR.s {R : Nat} {im im' : Mem} (h : ∀ c, c ≠ R → im' c = im c) : frR R im im' := fun c g1 _ => h c g1
theorem frR.ad {R : Nat} {im : Mem} {c : Nat} {x y : Int32} : frR R im (up2 (up2 im (R + 2) c x) R 8 y) := fun d g1 g2 => by rw [up2_n _ _ _ g1, up2_n _ _ _ g2]
theorem tE_ge {a : Nat → Int32} {T p : Nat} (hp : p ≤ T) : p ≤ tE a T p := by
  have h1 := tS_ge a T p
  by_cases h : tS a T p = T
  · rw [tE, if_pos h]; exact h1
  · have := tE_gt hp h; omega
theorem PC0_step {a : Nat → Int32} {im im' : Mem} {R T key : Nat} {σ : RS} (h : PC0 a im R T key σ) (g1 : im' R 3 = nI (tS (im (R + 1)) T (tE a T σ.1))) (g2 : im' R 2 = nI (tK (im (R + 1)) T (tE a T σ.1) (tWb a T σ.1))) (g3 : im' R 4 = nI (tE (im (R + 1)) T (tE a T σ.1))) (gj : ∀ j, j ≠ 2 → j ≠ 3 → j ≠ 4 → im' R j = im R j) (gc : ∀ c, c ≠ R → im' c = im c) : PC0 a im' R T key (r_nx a T σ) := by
  obtain ⟨h1, h2, h3, h4, h5, h6, h7, h8⟩ := h
  rw [h1] at g1 g2 g3
  refine ⟨by rw [gc _ (by omega)]; exact h1, by rw [gj 1 (by decide) (by decide) (by decide)]; exact h2, ⟨g1, g2, g3⟩, by rw [gj 5 (by decide) (by decide) (by decide)]; exact h4, by rw [gj 6 (by decide) (by decide) (by decide)]; exact h5, by rw [gj 8 (by decide) (by decide) (by decide)]; exact h6, fun i hi => by rw [gc _ (by omega)]; exact h7 i hi, tE_le h8⟩
theorem PC0_add {a : Nat → Int32} {im : Mem} {R T key : Nat} {σ : RS} {c : Int32} {x : Int32} (h : PC0 a im R T key σ) (hx : x = cmC c) : PC0 a (up2 (up2 im (R + 2) σ.2.2.1.length x) R 8 (nI (σ.2.2.1.length + 1))) R T key (r_ap σ [c]) := by
  obtain ⟨h1, h2, h3, h4, h5, h6, h7, h8⟩ := h
  have e : ∀ j, j ≠ 8 → up2 (up2 im (R + 2) σ.2.2.1.length x) R 8 (nI (σ.2.2.1.length + 1)) R j = im R j := fun j hj => by rw [up2_at, if_neg hj, up2_n _ _ _ (by omega)]
  unfold PC0
  rw [e 1 (by decide), e 2 (by decide), e 3 (by decide), e 4 (by decide), e 5 (by decide), e 6 (by decide)]
  refine ⟨by rw [up2_n _ _ _ (by omega), up2_n _ _ _ (by omega)]; exact h1, h2, h3, h4, h5, by rw [up2_at, if_pos rfl, r_ap]; simp, fun i hi => ?_, h8⟩
  rw [up2_n _ _ _ (by omega), up2_at]
  have hi' : i < σ.2.2.1.length + 1 := by rw [r_ap] at hi; simpa using hi
  show _ = cmC ((σ.2.2.1 ++ [c]).getD i 0)
  by_cases q : i = σ.2.2.1.length
  · rw [if_pos q, q, List.getD_eq_getElem?_getD, List.getElem?_append_right (Nat.le_refl _), Nat.sub_self, hx]; rfl
  · rw [if_neg q, List.getD_eq_getElem?_getD, List.getElem?_append_left (by omega), ← List.getD_eq_getElem?_getD]; exact h7 i (by omega)
/-- a reading's answer: the state behind it, or the place of its fault -/
def pRd (S : Sx) (a : Nat → Int32) (im : Mem) (R T key : Nat) (res : Bool × RS) : Int32 → Sx → Mem → Prop := fun v S' im' => S = S' ∧ frR R im im' ∧ ((res.1 = true ∧ nI 1 = v ∧ PC0 a im' R T key res.2) ∨ (res.1 = false ∧ nI 0 = v ∧ im' R 3 = nI (tS a T res.2.1)))
theorem cm_pt {a : Nat → Int32} {T p key : Nat} {w : Bool} (hp : p ≤ T) (hk : key < 3) (h2 : tK a T p w = 2) : cmC (ptC a T p w (nI key)) = vl a (tS a T p) (tE a T p - tS a T p) := by
  obtain ⟨hd, h4, hall⟩ := tK_dig h2
  have hts := tE_gt (a := a) hp (tK12 (Or.inr h2)).1
  obtain ⟨j, hj, e⟩ := vl_val (a := a) (s := tS a T p) (tE a T p - tS a T p) h4 (fun i hi => hall _ (by omega) (by omega))
  have hj4 : j < 10000 := Nat.lt_of_lt_of_le hj (Nat.pow_le_pow_right (by decide) h4)
  rw [ptC, if_pos h2, tV, if_pos hd, e, cm_num hj4]
theorem isPb_2 {a : Nat → Int32} {T p : Nat} {w : Bool} {key : Int32} (h2 : tK a T p w = 2) : isPb a T p w key = true := decide_eq_true (Or.inl h2)
theorem vl_ge {a : Nat → Int32} {T p : Nat} {w : Bool} (hp : p ≤ T) (h2 : tK a T p w = 2) : -3 ≤ vl a (tS a T p) (tE a T p - tS a T p) := by
  obtain ⟨hd, h4, hall⟩ := tK_dig h2
  have hts := tE_gt (a := a) hp (tK12 (Or.inr h2)).1
  obtain ⟨j, hj, e⟩ := vl_val (a := a) (s := tS a T p) (tE a T p - tS a T p) h4 (fun i hi => hall _ (by omega) (by omega))
  have hj4 : j < 10000 := Nat.lt_of_lt_of_le hj (Nat.pow_le_pow_right (by decide) h4)
  rw [e, Int32.le_iff_toInt_le, nI_toInt (by omega), show (-3 : Int32).toInt = -3 by decide]
  omega
theorem nm_ok {a : Nat → Int32} {T p key : Nat} {w : Bool} (hk : key < 3) (h1 : tK a T p w = 1) (h : tE a T p - tS a T p = 1 ∧ ¬ s_name (nI key) (tV a T p) < 0) : isPb a T p w (nI key) = true ∧ cmC (ptC a T p w (nI key)) = -1 - s_name (nI key) (tV a T p) ∧ -3 ≤ -1 - s_name (nI key) (tV a T p) := by
  obtain ⟨j, hj, e⟩ := name_val hk h.2
  have hn := nnm_le key
  refine ⟨decide_eq_true (Or.inr ⟨h1, h.1, h.2⟩), ?_, ?_⟩
  · rw [ptC, if_neg (by omega), e, nI_add, cm_name (by omega)]
  · rw [e]
    rcases (show j = 0 ∨ j = 1 ∨ j = 2 by omega) with rfl | rfl | rfl <;> decide
theorem nm_no {a : Nat → Int32} {T p key : Nat} {w : Bool} (h1 : tK a T p w = 1) (h : ¬ (tE a T p - tS a T p = 1 ∧ ¬ s_name (nI key) (tV a T p) < 0)) : isPb a T p w (nI key) = false := decide_eq_false (fun q => q.elim (fun e => by omega) (fun e => h ⟨e.2.1, e.2.2⟩))
set_option maxRecDepth 100000 in
set_option maxHeartbeats 4000000 in
theorem c5_readOperand (l : Launch) (E : Ex) (S : Sx) (im : Mem) (R : Nat) (hR : RLay S R) (T : Nat) (hT : T ≤ 96) (key : Nat) (hk3 : key < 3) (a : Nat → Int32) (σ : RS) (h : PC0 a im R T key σ) (hlen : σ.2.2.1.length ≤ σ.1) (h12 : tK a T σ.1 σ.2.1 = 1 ∨ tK a T σ.1 σ.2.1 = 2) : Mt l E yX5_readOperand cX5_readOperand 2 (some .boolean) 6 0 0 [.ref R] S im (pI (pRd S a im R T key (if isPb a T σ.1 σ.2.1 (nI key) = true then (true, r_pt a T (nI key) σ) else (false, σ)))) := by
  refine Mt.of (by decide +kernel) rfl rfl (Nat.le_of_ble_eq_true rfl) ?_
  intro κ hκ C ρ
  subst hκ
  show V E κ 2 0 0 0 [some (.ref R), none] [] S im
  have hlt : tS a T σ.1 < T := tk_lt h.2.2.2.2.2.2.2 (w := σ.2.1) (by omega)
  have hts := tS_ge a T σ.1
  have tail : ∀ x : Int32, x = cmC (ptC a T σ.1 σ.2.1 (nI key)) → isPb a T σ.1 σ.2.1 (nI key) = true → -3 ≤ x → V E κ 2 0 0 19 [some (.ref R), none] [.int x] S im := by
    intro x hx hpb hge
    refine z_istore_n (pc := 19) C dX5_readOperand_19 (by decide) rfl ?_
    refine z_iload_n (pc := 20) C dX5_readOperand_20 rfl ?_
    refine z_bipush (v := -3) (pc := 21) C dX5_readOperand_21 (by decide) ?_
    refine z_icmp_geT (pc := 23) C 28 dX5_readOperand_23 (by decide) (hge) ?_
    refine z_aload_n (pc := 28) C dX5_readOperand_28 rfl ?_
    refine z_dup (pc := 29) C dX5_readOperand_29 rfl ?_
    refine gX5_28 (pc := 30) C dX5_readOperand_30 hR.1 ?_
    refine z_eqi (y := nI σ.2.2.2) (h.2.2.2.2.1) ?_
    refine z_iconstN (pc := 33) C 1 dX5_readOperand_33 ?_
    refine z_iaddN (pc := 34) C dX5_readOperand_34 ?_
    refine pX5_28 (pc := 35) C dX5_readOperand_35 hR.1 ?_
    have h6 : PC0 a (up2 im R 6 (nI (σ.2.2.2 + 1))) R T key (σ.1, σ.2.1, σ.2.2.1, σ.2.2.2 + 1) := by
      obtain ⟨h1, h2, h3, h4, h5, h6, h7, h8⟩ := h
      have e : ∀ j, j ≠ 6 → up2 im R 6 (nI (σ.2.2.2 + 1)) R j = im R j := fun j hj => by rw [up2_at, if_neg hj]
      unfold PC0
      rw [e 1 (by decide), e 2 (by decide), e 3 (by decide), e 4 (by decide), e 5 (by decide), e 8 (by decide)]
      exact ⟨by rw [up2_n _ _ _ (by omega)]; exact h1, h2, h3, h4, by rw [up2_at, if_pos rfl], h6, fun i hi => by rw [up2_n _ _ _ (by omega)]; exact h7 i hi, h8⟩
    refine z_aload_n (pc := 38) C dX5_readOperand_38 rfl ?_
    refine z_iload_n (pc := 39) C dX5_readOperand_39 rfl ?_
    refine kX5_91 (pc := 40) C dX5_readOperand_40 (c5_add κ.2.1 E S (up2 im R 6 (nI (σ.2.2.2 + 1))) R hR σ.2.2.1.length (by omega) h6.2.2.2.2.2.1 x) hR.1 (by decide) (Nat.le_of_ble_eq_true rfl) (Nat.le_refl _) (Nat.le_refl _) (fun S_40 im_40 h_40 => ?_)
    obtain ⟨rfl, rfl⟩ := h_40
    have h7 := PC0_add (c := ptC a T σ.1 σ.2.1 (nI key)) h6 hx
    refine z_aload_n (pc := 43) C dX5_readOperand_43 rfl ?_
    refine kX5_34 (pc := 44) C dX5_readOperand_44 (c5_step κ.2.1 E S (up2 (up2 (up2 im R 6 (nI (σ.2.2.2 + 1))) (R + 2) σ.2.2.1.length x) R 8 (nI (σ.2.2.1.length + 1))) R hR T hT h7.2.1 (tE a T (r_ap (σ.1, σ.2.1, σ.2.2.1, σ.2.2.2 + 1) [ptC a T σ.1 σ.2.1 (nI key)]).1) (tE_le h7.2.2.2.2.2.2.2) h7.2.2.1.2.2 (tWb a T (r_ap (σ.1, σ.2.1, σ.2.2.1, σ.2.2.2 + 1) [ptC a T σ.1 σ.2.1 (nI key)]).1) (by rw [h7.2.2.1.2.1]; exact tk_w (by show ¬ tK a T σ.1 σ.2.1 = 4; omega))) hR.1 (by decide) (Nat.le_of_ble_eq_true rfl) (Nat.le_refl _) (Nat.le_refl _) (fun S_44 im_44 h_44 => ?_)
    obtain ⟨rfl, g1_44, g2_44, g3_44, gj_44, gc_44⟩ := h_44
    have st_44 : PC0 a im_44 R T key (r_nx a T (r_ap (σ.1, σ.2.1, σ.2.2.1, σ.2.2.2 + 1) [ptC a T σ.1 σ.2.1 (nI key)])) := PC0_step h7 g1_44 g2_44 g3_44 gj_44 gc_44
    refine z_iconstN (pc := 47) C 1 dX5_readOperand_47 ?_
    exact z_zret (pc := 48) C ρ dX5_readOperand_48 (by decide) (⟨_, rfl, rfl, (show frR R im _ from fun c g1 g2 => by rw [gc_44 c g1, up2_n _ _ _ g1, up2_n _ _ _ g2, up2_n _ _ _ g1]), Or.inl ⟨by rw [if_pos hpb], rfl, by rw [if_pos hpb]; exact st_44⟩⟩)
  refine z_aload_n (pc := 0) C dX5_readOperand_0 rfl ?_
  refine gX5_22 (pc := 1) C dX5_readOperand_1 hR.1 ?_
  refine z_eqi (y := nI (tK a T σ.1 σ.2.1)) (h.2.2.1.2.1) ?_
  refine z_iconstN (pc := 4) C 2 dX5_readOperand_4 ?_
  refine z_icmp_neN (pc := 5) C 15 dX5_readOperand_5 (by decide) (by have := tK_le a T σ.1 σ.2.1; omega) (by omega) (fun c_5 => ?_) (fun c_5 => ?_)
  · 
    refine z_aload_n (pc := 15) C dX5_readOperand_15 rfl ?_
    refine kX5_106 (pc := 16) C dX5_readOperand_16 (c5_nameHere κ.2.1 E S im R hR T hT h.2.1 σ.1 h.2.2.2.2.2.2.2 σ.2.1 h.tk (by rw [h.1]; omega) key hk3 h.2.2.2.1) hR.1 (by decide) (Nat.le_of_ble_eq_true rfl) (Nat.le_refl _) (Nat.le_refl _) (fun v_16 S_16 im_16 h_16 => ?_)
    obtain ⟨rfl, rfl, rfl⟩ := h_16
    rw [h.1]
    have hk1 : tK a T σ.1 σ.2.1 = 1 := by omega
    by_cases hq : tE a T σ.1 - tS a T σ.1 = 1 ∧ ¬ s_name (nI key) (tV a T σ.1) < 0
    · rw [if_pos hq]
      obtain ⟨q1, q2, q3⟩ := nm_ok hk3 hk1 hq
      exact tail _ q2.symm q1 q3
    · rw [if_neg hq]
      have hno := nm_no hk1 hq
      refine z_istore_n (pc := 19) C dX5_readOperand_19 (by decide) rfl ?_
      refine z_iload_n (pc := 20) C dX5_readOperand_20 rfl ?_
      refine z_bipush (v := -3) (pc := 21) C dX5_readOperand_21 (by decide) ?_
      refine z_icmp_geF (pc := 23) C 28 dX5_readOperand_23 (by decide) (by decide) ?_
      refine z_iconstN (pc := 26) C 0 dX5_readOperand_26 ?_
      exact z_zret (pc := 27) C ρ dX5_readOperand_27 (by decide) (⟨_, rfl, rfl, frR.rf, Or.inr ⟨by rw [if_neg (by rw [hno]; decide)], rfl, by rw [if_neg (by rw [hno]; decide)]; exact h.2.2.1.1⟩⟩)
  · 
    refine z_aload_n (pc := 8) C dX5_readOperand_8 rfl ?_
    refine kX5_103 (pc := 9) C dX5_readOperand_9 (c5_numberHere κ.2.1 E S im R hR (tS a T σ.1) (tE a T σ.1) h.2.2.1.1 h.2.2.1.2.2 (by have := tE_gt (a := a) h.2.2.2.2.2.2.2 (show ¬ tS a T σ.1 = T by omega); omega) (by have := tE_le (a := a) h.2.2.2.2.2.2.2; omega) (tK_dig c_5).2.1) hR.1 (by decide) (Nat.le_of_ble_eq_true rfl) (Nat.le_refl _) (Nat.le_refl _) (fun v_9 S_9 im_9 h_9 => ?_)
    obtain ⟨rfl, rfl, rfl⟩ := h_9
    rw [h.1]
    refine z_goto (pc := 12) C 19 dX5_readOperand_12 (by decide) ?_
    exact tail _ (cm_pt h.2.2.2.2.2.2.2 hk3 c_5).symm (isPb_2 c_5) (vl_ge h.2.2.2.2.2.2.2 c_5)
