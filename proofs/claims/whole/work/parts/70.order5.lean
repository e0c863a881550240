/-! the class: sheets as the reference has them; oiled -/
/-- the class's sheets hold these numbers -/
def SHS (im : Mem) (B : Nat) (so sz ce : Nat → Int32) : Prop := ∀ s, s < 4 → (im (B + 53 + 2 * s) 0 = so s ∧ im (B + 53 + 2 * s) 1 = sz s ∧ ∀ j, j < 24 → im (B + 53 + 2 * s + 1) j = ce (24 * s + j)) ∧ (∃ z, z ≤ 24 ∧ sz s = nI z) ∧ (so s = -1 ∨ so s = 0 ∨ so s = 1) ∧ ∀ j, j < 24 → ce (24 * s + j) = -1000000005 ∨ inR (-99999) 99999 (ce (24 * s + j))
theorem so_ge {x : Int32} (h : x = -1 ∨ x = 0 ∨ x = 1) (hn : ¬ x = -1) : 0 ≤ x := by
  rcases h with h | rfl | rfl
  · exact absurd h hn
  · decide
  · decide
theorem l_add {x y : Int64} (h1 : -4611686018427387904 ≤ x.toInt + y.toInt) (h2 : x.toInt + y.toInt ≤ 4611686018427387904) : (x + y).toInt = x.toInt + y.toInt := by
  rw [Int64.toInt_add, Int.bmod_def]
  split <;> omega
theorem l_sub {x y : Int64} (h1 : -4611686018427387904 ≤ x.toInt - y.toInt) (h2 : x.toInt - y.toInt ≤ 4611686018427387904) : (x - y).toInt = x.toInt - y.toInt := by
  rw [Int64.toInt_sub, Int.bmod_def]
  split <;> omega
theorem l_neg {x : Int64} (h1 : -4611686018427387904 ≤ x.toInt) (h2 : x.toInt ≤ 4611686018427387904) : (-x).toInt = -x.toInt := by
  rw [Int64.toInt_neg, Int.bmod_def]
  split <;> omega
theorem l_32 {x : Int64} (h1 : -2147483648 ≤ x.toInt) (h2 : x.toInt ≤ 2147483647) : x.toInt32.toInt = x.toInt := by
  rw [Int64.toInt_toInt32, Int.bmod_def]
  split <;> omega
theorem ab_val {c e : Int32} (hn : ¬ c = -1000000005) (hc : inR (-99999) 99999 c) (he : inR 0 9999 e) : (s_ab c e).toInt = (if e.toInt ≤ c.toInt then c.toInt - e.toInt else e.toInt - c.toInt) := by
  obtain ⟨c1, c2⟩ := hc
  obtain ⟨e1, e2⟩ := he
  have ec : c.toInt64.toInt = c.toInt := Int32.toInt_toInt64 c
  have ee : e.toInt64.toInt = e.toInt := Int32.toInt_toInt64 e
  have es : (c.toInt64 - e.toInt64).toInt = c.toInt - e.toInt := by rw [l_sub (by omega) (by omega), ec, ee]
  unfold s_ab
  rw [if_neg hn]
  by_cases h : e.toInt ≤ c.toInt
  · rw [if_pos ((lg_cmp_ge _ _).mpr (by rw [Int64.le_iff_toInt_le, es]; show (0 : Int64).toInt ≤ _; rw [show (0 : Int64).toInt = 0 by decide]; omega)), if_pos h, es]
  · rw [if_neg (fun h2 => by have h3 := (lg_cmp_ge _ _).mp h2; rw [Int64.le_iff_toInt_le, es, show (0 : Int64).toInt = 0 by decide] at h3; omega), if_neg h, l_neg (by omega) (by omega), es]
    omega
theorem ab_rng {c e : Int32} (hc : c = -1000000005 ∨ inR (-99999) 99999 c) (he : inR 0 9999 e) : 0 ≤ (s_ab c e).toInt ∧ (s_ab c e).toInt ≤ 109998 := by
  by_cases hn : c = -1000000005
  · unfold s_ab
    rw [if_pos hn]
    decide
  · have hc' : inR (-99999) 99999 c := hc.resolve_left hn
    rw [ab_val hn hc' he]
    obtain ⟨c1, c2⟩ := hc'
    obtain ⟨e1, e2⟩ := he
    split <;> omega
theorem off_rng {g c : Nat → Int32} {n n7 l0 : Nat} (hn : n ≤ 10) (hg : RG g n) (hl : l0 < n) : ∀ k, k ≤ 24 → (∀ j, j < k → c j = -1000000005 ∨ inR (-99999) 99999 (c j)) → 0 ≤ (s_off g c n n7 l0 k).toInt ∧ (s_off g c n n7 l0 k).toInt ≤ 109998 * k := by
  intro k
  induction k with
  | zero => intro _ _; show 0 ≤ (0 : Int64).toInt ∧ (0 : Int64).toInt ≤ _; rw [show (0 : Int64).toInt = 0 by decide]; omega
  | succ k ih =>
    intro hk hc
    obtain ⟨h1, h2⟩ := ih (by omega) (fun j hj => hc j (by omega))
    obtain ⟨h3, h4⟩ := ab_rng (hc k (by omega)) ((RG_nights (n7 := n7) (sp := -1) hn hg (k + 1)).2.2 l0 hl).2.2.2.2
    rw [s_off, l_add (by omega) (by omega)]
    omega
theorem off_skip {g c : Nat → Int32} {n n7 l0 k : Nat} (h : c k = -1000000005) : s_off g c n n7 l0 (k + 1) = s_off g c n n7 l0 k := by
  rw [s_off, s_ab, if_pos h, Int64.add_zero]
theorem off_step {g c : Nat → Int32} {n n7 l0 k : Nat} (hn : n ≤ 10) (hg : RG g n) (hl : l0 < n) (hk : k < 24) (hc : ∀ j, j < k + 1 → c j = -1000000005 ∨ inR (-99999) 99999 (c j)) (h : ¬ c k = -1000000005) {e : Int32} (he : e = s_nights g n n7 (-1) (k + 1) (8 + 7 * l0 + 4)) : (s_off g c n n7 l0 k).toInt32 + (if 0 ≤ e - c k then e - c k else 0 - (e - c k)) = (s_off g c n n7 l0 (k + 1)).toInt32 := by
  have hE : inR 0 9999 e := by rw [he]; exact ((RG_nights (n7 := n7) (sp := -1) hn hg (k + 1)).2.2 l0 hl).2.2.2.2
  have hck := (hc k (by omega)).resolve_left h
  obtain ⟨h1, h2⟩ := off_rng (n7 := n7) hn hg hl k (by omega) (fun j hj => hc j (by omega))
  obtain ⟨h3, h4⟩ := off_rng (n7 := n7) hn hg hl (k + 1) (by omega) hc
  have hab := ab_val h hck hE
  have ha2 := ab_rng (Or.inr hck) hE
  have es : (s_off g c n n7 l0 (k + 1)).toInt = (s_off g c n n7 l0 k).toInt + (s_ab (c k) e).toInt := by
    rw [s_off, ← he, l_add (by omega) (by omega)]
  have ed := sub_toI hE hck (by decide) (by decide)
  obtain ⟨c1, c2⟩ := hck
  obtain ⟨e1, e2⟩ := hE
  have hz : inR 0 0 (0 : Int32) := by unfold inR; rw [Int32.toInt_zero]; omega
  have hd : inR (-109998) 109998 (e - c k) := ⟨by rw [ed]; omega, by rw [ed]; omega⟩
  have en := sub_toI hz hd (by decide) (by decide)
  rw [Int32.toInt_zero] at en
  have eabs : (if 0 ≤ e - c k then e - c k else 0 - (e - c k)).toInt = (s_ab (c k) e).toInt := by
    rw [hab]
    by_cases hq : 0 ≤ e - c k
    · rw [if_pos hq]
      rw [Int32.le_iff_toInt_le, Int32.toInt_zero] at hq
      rw [ed]
      split <;> omega
    · rw [if_neg hq]
      rw [Int32.le_iff_toInt_le, Int32.toInt_zero] at hq
      rw [en]
      split <;> omega
  have e32 := l_32 (x := s_off g c n n7 l0 k) (by omega) (by omega)
  rw [← Int32.toInt_inj, l_32 (by omega) (by omega), add_toI (a := 0) (b := 2639952) (c := 0) (d := 109998) ⟨by rw [e32]; omega, by rw [e32]; omega⟩ ⟨by rw [eabs]; omega, by rw [eabs]; omega⟩ (by decide) (by decide), e32, eabs, es]
theorem bo_min {g : Nat → Int64} {D : Nat → Int32} (h : ∀ k, k < 100 → (D k).toInt = (g k).toInt ∧ 0 ≤ (g k).toInt ∧ (g k).toInt ≤ 2147483646) : ∀ k, k < 100 → c_min D (k + 1) = (nI (s_bo g k).1, (s_bo g k).2.toInt32) ∧ (s_bo g k).1 ≤ k ∧ ∃ j, j < 100 ∧ (s_bo g k).2 = g j := by
  intro k
  induction k with
  | zero =>
    intro _
    obtain ⟨h1, h2, h3⟩ := h 0 (by decide)
    have e : D 0 = (g 0).toInt32 := by rw [← Int32.toInt_inj, h1, l_32 (by omega) (by omega)]
    refine ⟨?_, Nat.le_refl _, 0, by decide, rfl⟩
    rw [c_min, if_pos (by show D 0 < 2147483647; rw [Int32.lt_iff_toInt_lt, h1, show (2147483647 : Int32).toInt = 2147483647 by decide]; omega), e]
    rfl
  | succ k ih =>
    intro hk
    obtain ⟨e1, e2, j, hj, ej⟩ := ih (by omega)
    obtain ⟨h1, h2, h3⟩ := h (k + 1) hk
    obtain ⟨k1, k2, k3⟩ := h j hj
    have eD : D (k + 1) = (g (k + 1)).toInt32 := by rw [← Int32.toInt_inj, h1, l_32 (by omega) (by omega)]
    rw [c_min, e1, s_bo]
    by_cases hc : 0 ≤ lg_cmp (g (k + 1)) (s_bo g k).2
    · rw [if_pos hc, if_neg]
      · exact ⟨rfl, by omega, j, hj, ej⟩
      · have := (lg_cmp_ge _ _).mp hc
        rw [Int64.le_iff_toInt_le, ej] at this
        show ¬ D (k + 1) < (s_bo g k).2.toInt32
        rw [Int32.lt_iff_toInt_lt, h1, ej, l_32 (by omega) (by omega)]
        omega
    · rw [if_neg hc, if_pos]
      · exact ⟨by rw [eD], Nat.le_refl _, k + 1, hk, rfl⟩
      · have h9 : ¬ (s_bo g k).2 ≤ g (k + 1) := fun q => hc ((lg_cmp_ge _ _).mpr q)
        rw [Int64.le_iff_toInt_le, ej] at h9
        show D (k + 1) < (s_bo g k).2.toInt32
        rw [Int32.lt_iff_toInt_lt, h1, ej, l_32 (by omega) (by omega)]
        omega
set_option maxRecDepth 100000 in
set_option maxHeartbeats 4000000 in
theorem c6_differences (l : Launch) (E : Ex) (S : Sx) (im : Mem) (B : Nat) (hC : CL S B) (X : Nat) (hX : B + 107 ≤ X) (f : Nat → Int32) (n n7 : Nat) (hst : ST S im (B + 1) X f n n7) (s0 : Nat) (hs0 : s0 < 4) (z : Nat) (hz24 : z ≤ 24) (hz : im (B + 53 + 2 * s0) 1 = nI z) (c : Nat → Int32) (hce : ∀ j, j < 24 → im (B + 53 + 2 * s0 + 1) j = c j) (hcr : ∀ j, j < 24 → c j = -1000000005 ∨ inR (-99999) 99999 (c j)) (l0 : Nat) (hl0 : l0 < n) (q : Nat) (hq : q < 100) : Mt l E yX6_differences cX6_differences 6 (some .int) 6 0 0 [.ref B, .ref (B + 53 + 2 * s0), .int (nI l0), .int (nI q)] S im (pI (fun v S' im' => (s_off (upd f (8 + 7 * l0 + 2) (nI q)) c n n7 l0 z).toInt32 = v ∧ SX (B + 31) S S' ∧ ST S' im' (B + 1) X f n n7 ∧ frC B X im im')) := by
  refine Mt.of (by decide +kernel) rfl rfl (Nat.le_of_ble_eq_true rfl) ?_
  intro κ hκ C ρ
  subst hκ
  show V E κ 6 0 0 0 [some (.ref B), some (.ref (B + 53 + 2 * s0)), some (.int (nI l0)), some (.int (nI q)), none, none] [] S im
  have hn10 := hst.1.1.1
  have h14 := hst.2.1.1.1
  have hr := hst.1
  have hT := hst.2.1
  have hg := hst.2.2
  have hX1 : B + 1 + 15 ≤ X := by omega
  refine z_aload_n (pc := 0) C dX6_differences_0 rfl ?_
  refine gX6_19 (pc := 1) C dX6_differences_1 (cl_K hC) (cl_r2 hC) ?_
  refine z_aload_n (pc := 4) C dX6_differences_4 rfl ?_
  refine gX6_10 (pc := 5) C dX6_differences_5 (cl_K hC) (cl_r0 hC) ?_
  refine kX6_163 (pc := 8) C dX6_differences_8 (c3_becomes κ.2.1 E S im (B + 31) (cl_s3 hC) (B + 1) (cl_s1 hC) (by omega) X f n n7 hst (by omega) (by omega)) (sl_K (cl_s3 hC)) (by decide) (Nat.le_of_ble_eq_true rfl) (Nat.le_refl _) (Nat.le_refl _) (fun S_8 im_8 h_8 => ?_)
  obtain ⟨sx_8, ht_8, -, fq_8⟩ := h_8
  have hC := CL_X hC sx_8 (Or.inr (Or.inr rfl))
  have hn_8 : ST S_8 im_8 (B + 1) X f n n7 := ST_fr (ST_X hst sx_8 (by omega) (by omega)) (fun a h1 h2 _ => fq_8 a (by omega)) (fun a h1 _ => fq_8 a (by omega))
  have fr_8 : frC B X im im_8 := fun a h1 h2 h3 => fq_8 a (by omega)
  have hgq : RG (upd f (8 + 7 * l0 + 2) (nI q)) n := RG_upd hg (fun h => by cases h) (fun h => by cases h) (fun _ => nI_R (by omega) (by omega)) (fun h => by cases h) (fun h => by cases h) (by decide)
  have loop : ∀ (r i : Nat) (im' : Mem), i + r = z → ST S_8 im' (B + 31) X (s_nights (upd f (8 + 7 * l0 + 2) (nI q)) n n7 (-1) i) n n7 → ST S_8 im' (B + 1) X f n n7 → frC B X im im' → V E κ 6 0 0 30 [some (.ref B), some (.ref (B + 53 + 2 * s0)), some (.int (nI l0)), some (.int (nI q)), some (.int ((s_off (upd f (8 + 7 * l0 + 2) (nI q)) c n n7 l0 i).toInt32)), some (.int (nI i))] [] S_8 im' := by
    intro r
    induction r with
    | zero =>
      intro i im' hi ht' hn' hfr
      refine z_iload (pc := 30) C dX6_differences_30 rfl ?_
      refine z_aload_n (pc := 32) C dX6_differences_32 rfl ?_
      refine gX6_274 (pc := 33) C dX6_differences_33 (hC.2.2.2.2.1 s0 (by omega)).2.1 ?_
      refine z_eqi (y := nI z) (by rw [hfr _ (by omega) (by omega) (by omega)]; exact hz) ?_
      refine z_icmp_geT (pc := 36) C 90 dX6_differences_36 (by decide) (nI_le (by omega) (by omega)) ?_
      refine z_iload (pc := 90) C dX6_differences_90 rfl ?_
      exact z_iret (pc := 92) C ρ dX6_differences_92 (⟨_, rfl, by rw [show z = i by omega], sx_8, hn', hfr⟩)
    | succ r ih =>
      intro i im' hi ht' hn' hfr
      refine z_iload (pc := 30) C dX6_differences_30 rfl ?_
      refine z_aload_n (pc := 32) C dX6_differences_32 rfl ?_
      refine gX6_274 (pc := 33) C dX6_differences_33 (hC.2.2.2.2.1 s0 (by omega)).2.1 ?_
      refine z_eqi (y := nI z) (by rw [hfr _ (by omega) (by omega) (by omega)]; exact hz) ?_
      refine z_icmp_geF (pc := 36) C 90 dX6_differences_36 (by decide) (nI_ge (by omega) (by omega)) ?_
      refine z_aload_n (pc := 39) C dX6_differences_39 rfl ?_
      refine gX6_19 (pc := 40) C dX6_differences_40 (cl_K hC) (cl_r2 hC) ?_
      refine z_iconst (v := -1) (pc := 43) C dX6_differences_43 (by decide) ?_
      refine kX6_170 (pc := 44) C dX6_differences_44 (c3_passNight κ.2.1 E S_8 im' (B + 31) (cl_s3 hC) (s_nights (upd f (8 + 7 * l0 + 2) (nI q)) n n7 (-1) i) n ht'.1 X n7 ht'.2.1 (by omega) ht'.2.2 (-1)) (sl_K (cl_s3 hC)) (by decide) (Nat.le_of_ble_eq_true rfl) (Nat.le_refl _) (Nat.le_refl _) (fun S_44 im_44 h_44 => ?_)
      obtain ⟨rfl, g1, -, g2, g3⟩ := h_44
      have h44 : ST S_8 im_44 (B + 31) X (s_nights (upd f (8 + 7 * l0 + 2) (nI q)) n n7 (-1) (i + 1)) n n7 := ST_mv ht' g1 (sam_night hn10) (RG_night hn10 ht'.2.2) g2 g3 (by omega)
      have hn44 : ST S_8 im_44 (B + 1) X f n n7 := ST_fr hn' (fun a h1 h2 _ => g3 a (by omega) (by omega)) (fun a h1 h2 => g3 a (by omega) (Or.inr h2))
      have hfr44 := hfr.tr g3.C3
      have hcl44 : ∀ j, j < 24 → im_44 (B + 53 + 2 * s0 + 1) j = c j := fun j hj => by rw [hfr44 _ (by omega) (by omega) (by omega)]; exact hce j hj
      refine z_aload_n (pc := 47) C dX6_differences_47 rfl ?_
      refine z_iload (pc := 48) C dX6_differences_48 rfl ?_
      refine kX6_268 (pc := 50) C dX6_differences_50 (c1_hasNumber κ.2.1 E S_8 im_44 (B + 53 + 2 * s0) (hC.2.2.2.2.1 s0 (by omega)).2 z hz24 (by rw [hfr44 _ (by omega) (by omega) (by omega)]; exact hz) (nI i)) (hC.2.2.2.2.1 s0 (by omega)).2.1 (by decide) (Nat.le_of_ble_eq_true rfl) (Nat.le_refl _) (Nat.le_refl _) (fun v_50 S_50 im_50 h_50 => ?_)
      rcases h_50 with ⟨hb_50, rfl, rfl, rfl⟩ | ⟨hb_50, rfl, rfl, rfl⟩
      · 
        have hne := hb_50.2
        rw [nI_clamp (by omega), hcl44 i (by omega)] at hne
        refine z_if_eqF (pc := 53) C 84 dX6_differences_53 (by decide) (by decide) ?_
        refine z_iload (pc := 56) C dX6_differences_56 rfl ?_
        refine z_aload_n (pc := 58) C dX6_differences_58 rfl ?_
        refine gX6_19 (pc := 59) C dX6_differences_59 (cl_K hC) (cl_r2 hC) ?_
        refine gX6_73 (pc := 62) C dX6_differences_62 (sl_K (cl_s3 hC)) (sl_r0 (cl_s3 hC)) ?_
        refine z_iload_n (pc := 65) C dX6_differences_65 rfl ?_
        refine z_aald (pc := 66) C dX6_differences_66 (sl_a1 (cl_s3 hC)) (by decide) (sl_n1 (cl_s3 hC)) (by omega) (by decide) (sl_e (cl_s3 hC) (i := l0) (by omega)) ?_
        refine gX6_114 (pc := 67) C dX6_differences_67 (sl_l (cl_s3 hC) (i := l0) (by omega)) ?_
        refine z_eqi (y := (s_nights (upd f (8 + 7 * l0 + 2) (nI q)) n n7 (-1) (i + 1)) (8 + 7 * l0 + 4)) (h44.1.2.2 l0 hl0 4 (by decide)) ?_
        refine z_aload_n (pc := 70) C dX6_differences_70 rfl ?_
        refine gX6_263 (pc := 71) C dX6_differences_71 (hC.2.2.2.2.1 s0 (by omega)).2.1 (hC.2.2.2.2.1 s0 (by omega)).2.2.1 ?_
        refine z_iload (pc := 74) C dX6_differences_74 rfl ?_
        refine z_iald (pc := 76) C dX6_differences_76 (hC.2.2.2.2.1 s0 (by omega)).2.2.2.1 (hC.2.2.2.2.1 s0 (by omega)).2.2.2.2 (by omega) (by decide) ?_
        refine z_eqi (y := c i) (hcl44 i (by omega)) ?_
        refine z_isub (pc := 77) C dX6_differences_77 ?_
        refine z_abs (pc := 78) C dX6_differences_78 wm_X6_330 (by decide) (Nat.le_of_ble_eq_true rfl) (Nat.zero_le _) (Nat.zero_le _) ?_
        refine z_iadd (pc := 81) C dX6_differences_81 ?_
        refine z_eqi (y := (s_off (upd f (8 + 7 * l0 + 2) (nI q)) c n n7 l0 (i + 1)).toInt32) (off_step hn10 hgq hl0 (by omega) (fun j hj => hcr j (by omega)) hne rfl) ?_
        refine z_istore (pc := 82) C dX6_differences_82 (by decide) rfl ?_
        refine z_iincN (pc := 84) C 1 dX6_differences_84 rfl (by decide) rfl ?_
        refine z_goto (pc := 87) C 30 dX6_differences_87 (by decide) ?_
        exact ih (i + 1) _ (by omega) h44 hn44 hfr44
      · 
        have hne : c i = -1000000005 := Decidable.byContradiction (fun h => hb_50 ⟨(in_sz (by omega)).mpr ⟨i, by omega, rfl⟩, by rw [nI_clamp (by omega), hcl44 i (by omega)]; exact h⟩)
        refine z_if_eqT (pc := 53) C 84 dX6_differences_53 (by decide) (by decide) ?_
        refine z_iincN (pc := 84) C 1 dX6_differences_84 rfl (by decide) rfl ?_
        refine z_goto (pc := 87) C 30 dX6_differences_87 (by decide) ?_
        have := ih (i + 1) im_44 (by omega) h44 hn44 hfr44
        rw [off_skip hne] at this
        exact this
  refine z_aload_n (pc := 11) C dX6_differences_11 rfl ?_
  refine gX6_19 (pc := 12) C dX6_differences_12 (cl_K hC) (cl_r2 hC) ?_
  refine gX6_73 (pc := 15) C dX6_differences_15 (sl_K (cl_s3 hC)) (sl_r0 (cl_s3 hC)) ?_
  refine z_iload_n (pc := 18) C dX6_differences_18 rfl ?_
  refine z_aald (pc := 19) C dX6_differences_19 (sl_a1 (cl_s3 hC)) (by decide) (sl_n1 (cl_s3 hC)) (by omega) (by decide) (sl_e (cl_s3 hC) (i := l0) (by omega)) ?_
  refine z_iload_n (pc := 20) C dX6_differences_20 rfl ?_
  refine pX6_108 (pc := 21) C dX6_differences_21 (sl_l (cl_s3 hC) (i := l0) (by omega)) ?_
  refine z_iconstN (pc := 24) C 0 dX6_differences_24 ?_
  refine z_istore (pc := 25) C dX6_differences_25 (by decide) rfl ?_
  refine z_iconstN (pc := 27) C 0 dX6_differences_27 ?_
  refine z_istore (pc := 28) C dX6_differences_28 (by decide) rfl ?_
  exact loop z 0 _ (by omega) (ST_lamp ht_8 hl0 (by decide) (fun h => by cases h) (fun h => by cases h) (fun _ => nI_R (by omega) (by omega)) (fun h => by cases h) (fun h => by cases h) (by omega)) (ST_fr hn_8 (fun a h1 h2 _ => up2_n _ _ _ (by omega)) (fun a h1 _ => up2_n _ _ _ (by omega))) (fr_8.up (by omega))
set_option maxRecDepth 100000 in
set_option maxHeartbeats 4000000 in
theorem c6_oiled (l : Launch) (E : Ex) (S : Sx) (im : Mem) (B : Nat) (hC : CL S B) (X : Nat) (hX : B + 107 ≤ X) (f : Nat → Int32) (n n7 : Nat) (hst : ST S im (B + 1) X f n n7) (so sz ce : Nat → Int32) (hsh : SHS im B so sz ce) (x y w : Int32) : Mt l E yX6_oiled cX6_oiled 8 (some .int) 7 0 0 [.ref B, .int x, .int y, .int w] S im (pI (pC S im B X n7 (r_oiled f (fun j => ce (24 * x.toNatClampNeg + j)) n n7 x y w (so x.toNatClampNeg) (sz x.toNatClampNeg)) (f))) := by
  refine Mt.of (by decide +kernel) rfl rfl (Nat.le_of_ble_eq_true rfl) ?_
  intro κ hκ C ρ
  subst hκ
  show V E κ 8 0 0 0 [some (.ref B), some (.int x), some (.int y), some (.int w), none, none, none, none] [] S im
  have hn10 := hst.1.1.1
  have h14 := hst.2.1.1.1
  have hr := hst.1
  have hT := hst.2.1
  have hg := hst.2.2
  have hX1 : B + 1 + 15 ≤ X := by omega
  refine z_iload_n (pc := 0) C dX6_oiled_0 rfl ?_
  refine kX6_185 (pc := 1) C dX6_oiled_1 (c6_isSheet κ.2.1 E S im (x)) (by decide) (Nat.le_of_ble_eq_true rfl) (Nat.le_refl _) (Nat.le_refl _) (fun v_1 S_1 im_1 h_1 => ?_)
  rcases h_1 with ⟨hb_1, rfl, rfl, rfl⟩ | ⟨hb_1, rfl, rfl, rfl⟩
  · 
    obtain ⟨s0, hs00, hs0, rfl⟩ := (rng (by decide) (by decide)).mp hb_1
    have hcs0 : (nI s0).toNatClampNeg = s0 := nI_clamp (by omega)
    obtain ⟨⟨q1s0, q2s0, q3s0⟩, ⟨zs0, hzs0, ezs0⟩, q4s0, q5s0⟩ := hsh s0 (by omega)
    refine z_if_eqF (pc := 4) C 27 dX6_oiled_4 (by decide) (by decide) ?_
    refine z_aload_n (pc := 7) C dX6_oiled_7 rfl ?_
    refine gX6_10 (pc := 8) C dX6_oiled_8 (cl_K hC) (cl_r0 hC) ?_
    refine z_iload_n (pc := 11) C dX6_oiled_11 rfl ?_
    refine kX6_70 (pc := 12) C dX6_oiled_12 (c3_hasLamp κ.2.1 E S im (B + 1) (cl_s1 hC) y n hn10 hr.1.2.2) (sl_K (cl_s1 hC)) (by decide) (Nat.le_of_ble_eq_true rfl) (Nat.le_refl _) (Nat.le_refl _) (fun v_12 S_12 im_12 h_12 => ?_)
    rcases h_12 with ⟨hb_12, rfl, rfl, rfl⟩ | ⟨hb_12, rfl, rfl, rfl⟩
    · 
      obtain ⟨l0, hl0, rfl⟩ := (in_lamp hn10).mp hb_12
      have hcl : (nI l0).toNatClampNeg = l0 := nI_clamp (by omega)
      refine z_if_eqF (pc := 15) C 27 dX6_oiled_15 (by decide) (by decide) ?_
      refine z_iload_n (pc := 18) C dX6_oiled_18 rfl ?_
      refine z_iconstN (pc := 19) C 0 dX6_oiled_19 ?_
      refine z_iconstN (pc := 20) C 1 dX6_oiled_20 ?_
      refine kX6_56 (pc := 21) C dX6_oiled_21 (c6_within κ.2.1 E S im (w) (nI 0) (nI 1)) (by decide) (Nat.le_of_ble_eq_true rfl) (Nat.le_refl _) (Nat.le_refl _) (fun v_21 S_21 im_21 h_21 => ?_)
      rcases h_21 with ⟨hb_21, rfl, rfl, rfl⟩ | ⟨hb_21, rfl, rfl, rfl⟩
      · 
        refine z_if_neT (pc := 24) C 30 dX6_oiled_24 (by decide) (by decide) ?_
        refine z_aload_n (pc := 30) C dX6_oiled_30 rfl ?_
        refine gX6_31 (pc := 31) C dX6_oiled_31 (cl_K hC) (cl_r5 hC) ?_
        refine z_iload_n (pc := 34) C dX6_oiled_34 rfl ?_
        refine z_aald (pc := 35) C dX6_oiled_35 (cl_a49 hC) (by decide) (cl_n49 hC) (by omega) (by decide) (hC.2.2.2.2.1 s0 (by omega)).1 ?_
        refine kX6_188 (pc := 36) C dX6_oiled_36 (c1_isMissing κ.2.1 E S im (B + 53 + 2 * s0) (hC.2.2.2.2.1 s0 (by omega)).2) (hC.2.2.2.2.1 s0 (by omega)).2.1 (by decide) (Nat.le_of_ble_eq_true rfl) (Nat.le_refl _) (Nat.le_refl _) (fun v_36 S_36 im_36 h_36 => ?_)
        rcases h_36 with ⟨hb_36, rfl, rfl, rfl⟩ | ⟨hb_36, rfl, rfl, rfl⟩
        · 
          rw [q1s0] at hb_36
          refine z_if_eqF (pc := 39) C 45 dX6_oiled_39 (by decide) (by decide) ?_
          refine z_ldc (pc := 42) C dX6_oiled_42 wk_X6_192 ?_
          exact z_iret (pc := 44) C ρ dX6_oiled_44 (⟨_, rfl, by rw [r_oiled, if_pos hb_1, if_pos hb_12, if_pos hb_21, hcs0, if_neg (by rw [hb_36]; decide)], SX.rf, ⟨n, hst⟩, frC.rf⟩)
        · 
          rw [q1s0] at hb_36
          have hges0 : 0 ≤ so s0 := so_ge q4s0 hb_36
          obtain ⟨c, hc0⟩ : ∃ c : Nat → Int32, c = (fun j => ce (24 * s0 + j)) := ⟨_, rfl⟩
          have hcr : ∀ j, j < 24 → c j = -1000000005 ∨ inR (-99999) 99999 (c j) := fun j hj => by rw [hc0]; exact q5s0 j hj
          obtain ⟨G, hG⟩ : ∃ G : Nat → Int64, G = (fun q => s_off (upd f (8 + 7 * l0 + 2) (nI q)) c n n7 l0 zs0) := ⟨_, rfl⟩
          obtain ⟨D, hDe⟩ : ∃ D : Nat → Int32, D = (fun q => (s_off (upd f (8 + 7 * l0 + 2) (nI q)) c n n7 l0 zs0).toInt32) := ⟨_, rfl⟩
          have hD : ∀ k, k < 100 → (D k).toInt = (G k).toInt ∧ 0 ≤ (G k).toInt ∧ (G k).toInt ≤ 2147483646 := fun k hk => by
            obtain ⟨h1, h2⟩ := off_rng (g := upd f (8 + 7 * l0 + 2) (nI k)) (c := c) (n7 := n7) hn10 (RG_upd hg (fun h => by cases h) (fun h => by cases h) (fun _ => nI_R (by omega) (by omega)) (fun h => by cases h) (fun h => by cases h) (by decide)) hl0 zs0 hzs0 (fun j hj => hcr j (by omega))
            rw [hDe, hG]
            show (s_off (upd f (8 + 7 * l0 + 2) (nI k)) c n n7 l0 zs0).toInt32.toInt = _ ∧ 0 ≤ (s_off (upd f (8 + 7 * l0 + 2) (nI k)) c n n7 l0 zs0).toInt ∧ (s_off (upd f (8 + 7 * l0 + 2) (nI k)) c n n7 l0 zs0).toInt ≤ _
            exact ⟨l_32 (by omega) (by omega), h1, by omega⟩
          have loop : ∀ (r i : Nat) (S' : Sx) (im' : Mem) (y7 : Option Value), i + r = 100 → SX (B + 31) S S' → ST S' im' (B + 1) X f n n7 → frC B X im im' → V E κ 8 0 0 55 [some (.ref B), some (.int (nI s0)), some (.int (nI l0)), some (.int w), some (.int ((c_min D i).1)), some (.int ((c_min D i).2)), some (.int (nI i)), y7] [] S' im' := by
            intro r
            induction r with
            | zero =>
              intro i S' im' y7 hi hsx hn' hfr
              have hC := CL_X hC hsx (Or.inr (Or.inr rfl))
              refine z_iload (pc := 55) C dX6_oiled_55 rfl ?_
              refine z_bipushN (pc := 57) C 99 (by decide) dX6_oiled_57 ?_
              refine z_icmp_gtT (pc := 59) C 98 dX6_oiled_59 (by decide) (nI_lt (by omega) (by omega)) ?_
              refine z_iload_n (pc := 98) C dX6_oiled_98 rfl ?_
              refine z_if_ne (pc := 99) C 107 dX6_oiled_99 (by decide) (fun c_99 => ?_) (fun c_99 => ?_)
              · 
                refine z_iload (pc := 107) C dX6_oiled_107 rfl ?_
                exact z_iret (pc := 109) C ρ dX6_oiled_109 (⟨_, rfl, by rw [r_oiled, if_pos hb_1, if_pos hb_12, if_pos hb_21, hcs0, if_pos hges0, if_neg c_99, hcl, ezs0, nI_clamp (by omega), show i = 99 + 1 by omega, (bo_min hD 99 (by decide)).1, hG, hc0], hsx, ⟨n, hn'⟩, hfr⟩)
              · 
                refine z_iload (pc := 102) C dX6_oiled_102 rfl ?_
                refine z_goto (pc := 104) C 109 dX6_oiled_104 (by decide) ?_
                exact z_iret (pc := 109) C ρ dX6_oiled_109 (⟨_, rfl, by rw [r_oiled, if_pos hb_1, if_pos hb_12, if_pos hb_21, hcs0, if_pos hges0, if_pos c_99, hcl, ezs0, nI_clamp (by omega), show i = 99 + 1 by omega, (bo_min hD 99 (by decide)).1, hG, hc0], hsx, ⟨n, hn'⟩, hfr⟩)
            | succ r ih =>
              intro i S' im' y7 hi hsx hn' hfr
              have hC := CL_X hC hsx (Or.inr (Or.inr rfl))
              refine z_iload (pc := 55) C dX6_oiled_55 rfl ?_
              refine z_bipushN (pc := 57) C 99 (by decide) dX6_oiled_57 ?_
              refine z_icmp_gtF (pc := 59) C 98 dX6_oiled_59 (by decide) (nI_nlt (by omega) (by omega)) ?_
              refine z_aload_n (pc := 62) C dX6_oiled_62 rfl ?_
              refine z_aload_n (pc := 63) C dX6_oiled_63 rfl ?_
              refine gX6_31 (pc := 64) C dX6_oiled_64 (cl_K hC) (cl_r5 hC) ?_
              refine z_iload_n (pc := 67) C dX6_oiled_67 rfl ?_
              refine z_aald (pc := 68) C dX6_oiled_68 (cl_a49 hC) (by decide) (cl_n49 hC) (by omega) (by decide) (hC.2.2.2.2.1 s0 (by omega)).1 ?_
              refine z_iload_n (pc := 69) C dX6_oiled_69 rfl ?_
              refine z_iload (pc := 70) C dX6_oiled_70 rfl ?_
              refine kX6_193 (pc := 72) C dX6_oiled_72 (c6_differences κ.2.1 E S' im' B hC X hX f n n7 hn' s0 (by omega) zs0 hzs0 (by rw [hfr _ (by omega) (by omega) (by omega), q2s0]; exact ezs0) c (fun j hj => by rw [hfr _ (by omega) (by omega) (by omega), hc0]; exact q3s0 j hj) hcr l0 hl0 i (by omega)) (cl_K hC) (by decide) (Nat.le_of_ble_eq_true rfl) (Nat.le_refl _) (Nat.le_refl _) (fun v_72 S_72 im_72 h_72 => ?_)
              obtain ⟨rfl, sx_72, hn72, fr_72⟩ := h_72
              have hC := CL_X hC sx_72 (Or.inr (Or.inr rfl))
              refine z_eqi (y := D i) (by rw [hDe]) ?_
              refine z_istore (pc := 75) C dX6_oiled_75 (by decide) rfl ?_
              refine z_iload (pc := 77) C dX6_oiled_77 rfl ?_
              refine z_iload (pc := 79) C dX6_oiled_79 rfl ?_
              refine z_icmp_ge (pc := 81) C 92 dX6_oiled_81 (by decide) (fun c_81 => ?_) (fun c_81 => ?_)
              · 
                refine z_iincN (pc := 92) C 1 dX6_oiled_92 rfl (by decide) rfl ?_
                refine z_goto (pc := 95) C 55 dX6_oiled_95 (by decide) ?_
                have := ih (i + 1) _ _ (some (.int (D i))) (by omega) (hsx.tr sx_72) hn72 (hfr.tr fr_72)
                rw [c_min, if_neg (i_nlt2 c_81)] at this
                exact this
              · 
                refine z_iload (pc := 84) C dX6_oiled_84 rfl ?_
                refine z_istore (pc := 86) C dX6_oiled_86 (by decide) rfl ?_
                refine z_iload (pc := 88) C dX6_oiled_88 rfl ?_
                refine z_istore (pc := 90) C dX6_oiled_90 (by decide) rfl ?_
                refine z_iincN (pc := 92) C 1 dX6_oiled_92 rfl (by decide) rfl ?_
                refine z_goto (pc := 95) C 55 dX6_oiled_95 (by decide) ?_
                have := ih (i + 1) _ _ (some (.int (D i))) (by omega) (hsx.tr sx_72) hn72 (hfr.tr fr_72)
                rw [c_min, if_pos (i_lt2 c_81)] at this
                exact this
          refine z_if_eqT (pc := 39) C 45 dX6_oiled_39 (by decide) (by decide) ?_
          refine z_iconstN (pc := 45) C 0 dX6_oiled_45 ?_
          refine z_istore (pc := 46) C dX6_oiled_46 (by decide) rfl ?_
          refine z_ldc (pc := 48) C dX6_oiled_48 wk_X6_181 ?_
          refine z_istore (pc := 50) C dX6_oiled_50 (by decide) rfl ?_
          refine z_iconstN (pc := 52) C 0 dX6_oiled_52 ?_
          refine z_istore (pc := 53) C dX6_oiled_53 (by decide) rfl ?_
          exact loop 100 0 S im _ (by omega) SX.rf hst frC.rf
      · 
        refine z_if_neF (pc := 24) C 30 dX6_oiled_24 (by decide) (by decide) ?_
        refine z_ldc (pc := 27) C dX6_oiled_27 wk_X6_60 ?_
        exact z_iret (pc := 29) C ρ dX6_oiled_29 (⟨_, rfl, by simp only [r_oiled, if_pos hb_1, if_pos hb_12, if_neg hb_21], SX.rf, ⟨n, hst⟩, frC.rf⟩)
    · 
      refine z_if_eqT (pc := 15) C 27 dX6_oiled_15 (by decide) (by decide) ?_
      refine z_ldc (pc := 27) C dX6_oiled_27 wk_X6_60 ?_
      exact z_iret (pc := 29) C ρ dX6_oiled_29 (⟨_, rfl, by simp only [r_oiled, if_pos hb_1, if_neg hb_12], SX.rf, ⟨n, hst⟩, frC.rf⟩)
  · 
    refine z_if_eqT (pc := 4) C 27 dX6_oiled_4 (by decide) (by decide) ?_
    refine z_ldc (pc := 27) C dX6_oiled_27 wk_X6_60 ?_
    exact z_iret (pc := 29) C ρ dX6_oiled_29 (⟨_, rfl, by simp only [r_oiled, if_neg hb_1], SX.rf, ⟨n, hst⟩, frC.rf⟩)
