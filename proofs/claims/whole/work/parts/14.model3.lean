/-! the reference: a lamp's numbers -/
/-- what the reference's methods ask of the row of numbers: how many lamps and texts there are, and that each text can be worked out -/
def MOk (f : Nat → Int32) (n n7 : Nat) : Prop := (n ≤ 10 ∧ f 1 = nI n) ∧ (n7 ≤ 14 ∧ f 7 = nI n7) ∧ ∀ t, t < n7 → ∃ key m, TxOk f t key m
def s_len (f : Nat → Int32) (t : Nat) : Nat := (f (78 + 2 * t)).toNatClampNeg % 1000
theorem s_len_eq {f : Nat → Int32} {t key m : Nat} (h : TxOk f t key m) : s_len f t = m := by
  have h1 := h.2.2.1
  have h2 := h.1
  rw [s_len, h.2.1, nI_clamp (by omega)]
  omega
def fa3 (a b c : Int32) : Nat → Int32 := fun i => if i = 0 then a else if i = 1 then b else c
theorem s_cnt_cases (f : Nat → Int32) (key : Int32) : ∀ n7, s_cnt f key n7 = -1 ∨ ∃ t, t < n7 ∧ s_cnt f key n7 = nI t ∧ f (78 + 2 * t) / nI 1000 = key := by
  intro n7
  induction n7 with
  | zero => exact Or.inl rfl
  | succ k ih =>
    rw [s_cnt]
    by_cases h : f (78 + 2 * k) / nI 1000 = key
    · rw [if_pos h]; exact Or.inr ⟨k, by omega, rfl, h⟩
    · rw [if_neg h]
      rcases ih with h1 | ⟨t, h1, h2, h3⟩
      · exact Or.inl h1
      · exact Or.inr ⟨t, by omega, h2, h3⟩
theorem TxOk.key {f : Nat → Int32} {t key m k : Nat} (h : TxOk f t key m) (hk : f (78 + 2 * t) / nI 1000 = nI k) (hk3 : k < 3) : key = k := by
  have h1 := h.2.2.1
  have h2 := h.1
  rw [h.2.1, pk_div (by omega) (by decide) (by decide)] at hk
  have := (nI_eq (by omega) (by omega)).mp hk
  omega
/-- what a key gives, by the text that counts; dflt without one -/
def s_give (f : Nat → Int32) (n7 : Nat) (key : Int32) (fa : Nat → Int32) (dflt : Int32) : Int32 := if 0 ≤ s_cnt f key n7 then s_val f (s_cnt f key n7).toNatClampNeg (s_len f (s_cnt f key n7).toNatClampNeg) fa else dflt
def s_plain (f : Nat → Int32) (n7 : Nat) (o w s : Int32) : Int32 := if 0 ≤ s_cnt f (nI 0) n7 then s_within (s_val f (s_cnt f (nI 0) n7).toNatClampNeg (s_len f (s_cnt f (nI 0) n7).toNatClampNeg) (fa3 o w s)) (nI 0) (nI 9999) else nI 10 * o - w * o / nI 2
def s_bare (p : Int32) : Int32 := if nI 20 ≤ p then p - nI 20 else nI 0
def s_burn (k o p : Int32) : Int32 := if k = nI 1 then (nI 10 * o + p) / nI 2 else if k = nI 2 then s_bare p else if k = nI 3 then nI 10 * o else if k = nI 4 then s_bare p / nI 2 else if k = nI 5 then nI 9999 else p
def s_burns (f : Nat → Int32) (n7 l0 : Nat) : Int32 := s_burn (f (8 + 7 * l0 + 0)) (f (8 + 7 * l0 + 2)) (s_plain f n7 (f (8 + 7 * l0 + 2)) (f 4) (f (8 + 7 * l0 + 1)))
/-- nothing has changed but the reference's rows for working out -/
def frX (M : Nat) (im im' : Mem) : Prop := ∀ a, a ≠ M + 15 → a ≠ M + 16 → im' a = im a
theorem frX.rf {M : Nat} {im : Mem} : frX M im im := fun _ _ _ => rfl
theorem frX.tr {M : Nat} {a b c : Mem} (h1 : frX M a b) (h2 : frX M b c) : frX M a c := fun q x y => (h2 q x y).trans (h1 q x y)
set_option maxRecDepth 100000 in
set_option maxHeartbeats 4000000 in
theorem m7_burnsOf (l : Launch) (E : Ex) (S : Sx) (im : Mem) (M : Nat) (hM : ML S M) (n n7 l0 : Nat) (hl : l0 < 10) (hok : MOk (im (M + 1)) n n7) : Mt l E yX7_burnsOf cX7_burnsOf 6 (some .int) 3 0 0 [.ref M, .int (nI l0)] S im (pI (fun v S' im' => s_burns (im (M + 1)) n7 l0 = v ∧ S = S' ∧ frX M im im')) := by
  refine Mt.of (by decide +kernel) rfl rfl (Nat.le_of_ble_eq_true rfl) ?_
  intro κ hκ C ρ
  subst hκ
  show V E κ 6 0 0 0 [some (.ref M), some (.int (nI l0)), none, none, none, none] [] S im
  have j78 : ∀ (x : Int32) (im' : Mem), x = s_plain (im (M + 1)) n7 (im (M + 1) (8 + 7 * l0 + 2)) (im (M + 1) 4) (im (M + 1) (8 + 7 * l0 + 1)) → frX M im im' → V E κ 6 0 0 78 [some (.ref M), some (.int (nI l0)), some (.int (im (M + 1) (8 + 7 * l0 + 2))), some (.int (s_cnt (im (M + 1)) (nI 0) n7)), none, none] [.int x] S im' := by
    intro x im' ex hf
    refine z_istore (pc := 78) C dX7_burnsOf_78 (by decide) rfl ?_
    refine z_iload (pc := 80) C dX7_burnsOf_80 rfl ?_
    refine z_bipushN (pc := 82) C 20 (by decide) dX7_burnsOf_82 ?_
    have j_96 : ∀ b : Int32, b = (s_bare x) → V E κ 6 0 0 96 [some (.ref M), some (.int (nI l0)), some (.int (im (M + 1) (8 + 7 * l0 + 2))), some (.int (s_cnt (im (M + 1)) (nI 0) n7)), some (.int x), none] [.int b] S im' := by
      intro b eb
      refine z_istore (pc := 96) C dX7_burnsOf_96 (by decide) rfl ?_
      refine z_aload_n (pc := 98) C dX7_burnsOf_98 rfl ?_
      refine z_iload_n (pc := 99) C dX7_burnsOf_99 rfl ?_
      refine z_iconstN (pc := 100) C 0 dX7_burnsOf_100 ?_
      refine kX7_106 (pc := 101) C dX7_burnsOf_101 (m7_of κ.2.1 E S im' M hM l0 0 hl (by decide)) (ml_K hM) (by decide) (Nat.le_of_ble_eq_true rfl) (Nat.le_refl _) (Nat.le_refl _) (fun v_101 S_101 im_101 h_101 => ?_)
      obtain ⟨rfl, rfl, rfl⟩ := h_101
      refine z_eqi (y := im (M + 1) (8 + 7 * l0 + 0)) (by rw [hf _ (by omega) (by omega)]) ?_
      by_cases hs_1 : im (M + 1) (8 + 7 * l0 + 0) = nI 1
      · 
        refine z_eqi (y := nI 1) hs_1 ?_
        refine z_tableIn (off := 36) (pc := 104) C 140 dX7_burnsOf_104 (by decide) (by decide) (by decide +kernel) (by decide) ?_
        refine z_bipushN (pc := 140) C 10 (by decide) dX7_burnsOf_140 ?_
        refine z_iload_n (pc := 142) C dX7_burnsOf_142 rfl ?_
        refine z_imul (pc := 143) C dX7_burnsOf_143 ?_
        refine z_iload (pc := 144) C dX7_burnsOf_144 rfl ?_
        refine z_iadd (pc := 146) C dX7_burnsOf_146 ?_
        refine z_iconstN (pc := 147) C 2 dX7_burnsOf_147 ?_
        refine z_idiv (pc := 148) C dX7_burnsOf_148 (by decide) ?_
        exact z_iret (pc := 149) C ρ dX7_burnsOf_149 (⟨_, rfl, by simp only [s_burns, s_burn, if_pos hs_1, eb, ex], rfl, hf⟩)
      by_cases hs_2 : im (M + 1) (8 + 7 * l0 + 0) = nI 2
      · 
        refine z_eqi (y := nI 2) hs_2 ?_
        refine z_tableIn (off := 46) (pc := 104) C 150 dX7_burnsOf_104 (by decide) (by decide) (by decide +kernel) (by decide) ?_
        refine z_iload (pc := 150) C dX7_burnsOf_150 rfl ?_
        exact z_iret (pc := 152) C ρ dX7_burnsOf_152 (⟨_, rfl, by simp only [s_burns, s_burn, if_neg hs_1, if_pos hs_2, eb, ex], rfl, hf⟩)
      by_cases hs_3 : im (M + 1) (8 + 7 * l0 + 0) = nI 3
      · 
        refine z_eqi (y := nI 3) hs_3 ?_
        refine z_tableIn (off := 49) (pc := 104) C 153 dX7_burnsOf_104 (by decide) (by decide) (by decide +kernel) (by decide) ?_
        refine z_bipushN (pc := 153) C 10 (by decide) dX7_burnsOf_153 ?_
        refine z_iload_n (pc := 155) C dX7_burnsOf_155 rfl ?_
        refine z_imul (pc := 156) C dX7_burnsOf_156 ?_
        exact z_iret (pc := 157) C ρ dX7_burnsOf_157 (⟨_, rfl, by simp only [s_burns, s_burn, if_neg hs_1, if_neg hs_2, if_pos hs_3, eb, ex], rfl, hf⟩)
      by_cases hs_4 : im (M + 1) (8 + 7 * l0 + 0) = nI 4
      · 
        refine z_eqi (y := nI 4) hs_4 ?_
        refine z_tableIn (off := 54) (pc := 104) C 158 dX7_burnsOf_104 (by decide) (by decide) (by decide +kernel) (by decide) ?_
        refine z_iload (pc := 158) C dX7_burnsOf_158 rfl ?_
        refine z_iconstN (pc := 160) C 2 dX7_burnsOf_160 ?_
        refine z_idiv (pc := 161) C dX7_burnsOf_161 (by decide) ?_
        exact z_iret (pc := 162) C ρ dX7_burnsOf_162 (⟨_, rfl, by simp only [s_burns, s_burn, if_neg hs_1, if_neg hs_2, if_neg hs_3, if_pos hs_4, eb, ex], rfl, hf⟩)
      by_cases hs_5 : im (M + 1) (8 + 7 * l0 + 0) = nI 5
      · 
        refine z_eqi (y := nI 5) hs_5 ?_
        refine z_tableIn (off := 59) (pc := 104) C 163 dX7_burnsOf_104 (by decide) (by decide) (by decide +kernel) (by decide) ?_
        refine z_sipush (v := nI 9999) (pc := 163) C dX7_burnsOf_163 (by decide +kernel) ?_
        exact z_iret (pc := 166) C ρ dX7_burnsOf_166 (⟨_, rfl, by simp only [s_burns, s_burn, if_neg hs_1, if_neg hs_2, if_neg hs_3, if_neg hs_4, if_pos hs_5, eb, ex], rfl, hf⟩)
      refine z_tableOut (pc := 104) C 167 dX7_burnsOf_104 (by have q_0 := lv_neT hs_1 (show (nI 1 : Int32).toInt = 1 by decide); have q_1 := lv_neT hs_2 (show (nI 2 : Int32).toInt = 2 by decide); have q_2 := lv_neT hs_3 (show (nI 3 : Int32).toInt = 3 by decide); have q_3 := lv_neT hs_4 (show (nI 4 : Int32).toInt = 4 by decide); have q_4 := lv_neT hs_5 (show (nI 5 : Int32).toInt = 5 by decide); omega) (by decide) ?_
      refine z_iload (pc := 167) C dX7_burnsOf_167 rfl ?_
      exact z_iret (pc := 169) C ρ dX7_burnsOf_169 (⟨_, rfl, by simp only [s_burns, s_burn, if_neg hs_1, if_neg hs_2, if_neg hs_3, if_neg hs_4, if_neg hs_5, eb, ex], rfl, hf⟩)
    refine z_icmp_ge (pc := 84) C 91 dX7_burnsOf_84 (by decide) (fun c_84 => ?_) (fun c_84 => ?_)
    · 
      refine z_iload (pc := 91) C dX7_burnsOf_91 rfl ?_
      refine z_bipushN (pc := 93) C 20 (by decide) dX7_burnsOf_93 ?_
      refine z_isub (pc := 95) C dX7_burnsOf_95 ?_
      exact j_96 _ (by simp only [s_bare, if_pos c_84])
    · 
      refine z_iconstN (pc := 87) C 0 dX7_burnsOf_87 ?_
      refine z_goto (pc := 88) C 96 dX7_burnsOf_88 (by decide) ?_
      exact j_96 _ (by simp only [s_bare, if_neg c_84])
  refine z_aload_n (pc := 0) C dX7_burnsOf_0 rfl ?_
  refine z_iload_n (pc := 1) C dX7_burnsOf_1 rfl ?_
  refine z_iconstN (pc := 2) C 2 dX7_burnsOf_2 ?_
  refine kX7_106 (pc := 3) C dX7_burnsOf_3 (m7_of κ.2.1 E S im M hM l0 2 hl (by decide)) (ml_K hM) (by decide) (Nat.le_of_ble_eq_true rfl) (Nat.le_refl _) (Nat.le_refl _) (fun v_3 S_3 im_3 h_3 => ?_)
  obtain ⟨rfl, rfl, rfl⟩ := h_3
  refine z_istore_n (pc := 6) C dX7_burnsOf_6 (by decide) rfl ?_
  refine z_aload_n (pc := 7) C dX7_burnsOf_7 rfl ?_
  refine z_iconstN (pc := 8) C 0 dX7_burnsOf_8 ?_
  refine kX7_110 (pc := 9) C dX7_burnsOf_9 (m7_counts κ.2.1 E S im M hM (nI 0) n7 hok.2.1.1 hok.2.1.2) (ml_K hM) (by decide) (Nat.le_of_ble_eq_true rfl) (Nat.le_refl _) (Nat.le_refl _) (fun v_9 S_9 im_9 h_9 => ?_)
  obtain ⟨rfl, rfl, rfl⟩ := h_9
  refine z_istore_n (pc := 12) C dX7_burnsOf_12 (by decide) rfl ?_
  refine z_aload_n (pc := 13) C dX7_burnsOf_13 rfl ?_
  refine gX7_61 (pc := 14) C dX7_burnsOf_14 (ml_K hM) (ml_r27 hM) ?_
  refine z_iconstN (pc := 17) C 0 dX7_burnsOf_17 ?_
  refine z_iload_n (pc := 18) C dX7_burnsOf_18 rfl ?_
  refine z_iast (pc := 19) C dX7_burnsOf_19 (ml_a16 hM) (ml_n16 hM) (by omega) (by decide) ?_
  refine z_aload_n (pc := 20) C dX7_burnsOf_20 rfl ?_
  refine gX7_61 (pc := 21) C dX7_burnsOf_21 (ml_K hM) (ml_r27 hM) ?_
  refine z_iconstN (pc := 24) C 1 dX7_burnsOf_24 ?_
  refine z_aload_n (pc := 25) C dX7_burnsOf_25 rfl ?_
  refine gX7_9 (pc := 26) C dX7_burnsOf_26 (ml_K hM) (ml_r0 hM) ?_
  refine z_iconstN (pc := 29) C 4 dX7_burnsOf_29 ?_
  refine z_iald (pc := 30) C dX7_burnsOf_30 (ml_a1 hM) (ml_n1 hM) (by omega) (by decide) ?_
  refine z_eqi (y := im (M + 1) 4) (by rw [up2_n _ _ _ (by omega)]) ?_
  refine z_iast (pc := 31) C dX7_burnsOf_31 (ml_a16 hM) (ml_n16 hM) (by omega) (by decide) ?_
  refine z_aload_n (pc := 32) C dX7_burnsOf_32 rfl ?_
  refine gX7_61 (pc := 33) C dX7_burnsOf_33 (ml_K hM) (ml_r27 hM) ?_
  refine z_iconstN (pc := 36) C 2 dX7_burnsOf_36 ?_
  refine z_aload_n (pc := 37) C dX7_burnsOf_37 rfl ?_
  refine z_iload_n (pc := 38) C dX7_burnsOf_38 rfl ?_
  refine z_iconstN (pc := 39) C 1 dX7_burnsOf_39 ?_
  refine kX7_106 (pc := 40) C dX7_burnsOf_40 (m7_of κ.2.1 E S _ M hM l0 1 hl (by decide)) (ml_K hM) (by decide) (Nat.le_of_ble_eq_true rfl) (Nat.le_refl _) (Nat.le_refl _) (fun v_40 S_40 im_40 h_40 => ?_)
  obtain ⟨rfl, rfl, rfl⟩ := h_40
  refine z_eqi (y := im (M + 1) (8 + 7 * l0 + 1)) (by rw [up2_n _ _ _ (by omega), up2_n _ _ _ (by omega)]) ?_
  refine z_iast (pc := 43) C dX7_burnsOf_43 (ml_a16 hM) (ml_n16 hM) (by omega) (by decide) ?_
  refine z_iload_n (pc := 44) C dX7_burnsOf_44 rfl ?_
  refine z_if_ge (pc := 45) C 66 dX7_burnsOf_45 (by decide) (fun c_45 => ?_) (fun c_45 => ?_)
  · 
    rcases s_cnt_cases (im (M + 1)) (nI 0) n7 with hc | ⟨tt, ht, hc, hkey⟩
    · rw [hc] at c_45; exact absurd c_45 (by decide)
    obtain ⟨key, m, hT⟩ := hok.2.2 tt ht
    have hk0 : key = 0 := hT.key hkey (by decide)
    subst hk0
    rw [hc]
    refine z_aload_n (pc := 66) C dX7_burnsOf_66 rfl ?_
    refine z_iload_n (pc := 67) C dX7_burnsOf_67 rfl ?_
    refine kX7_114 (pc := 68) C dX7_burnsOf_68 (m7_worksOut κ.2.1 E S _ M hM tt 0 m (by have := hok.2.1.1; omega) (by rw [up2_n _ _ _ (by omega), up2_n _ _ _ (by omega), up2_n _ _ _ (by omega)]; exact hT)) (ml_K hM) (by decide) (Nat.le_of_ble_eq_true rfl) (Nat.le_refl _) (Nat.le_refl _) (fun v_68 S_68 im_68 h_68 => ?_)
    obtain ⟨rfl, rfl, hfw⟩ := h_68
    refine z_eqi (y := s_val (im (M + 1)) tt m ((up2 (up2 (up2 im (M + 16) 0 (im (M + 1) (8 + 7 * l0 + 2))) (M + 16) 1 (im (M + 1) 4)) (M + 16) 2 (im (M + 1) (8 + 7 * l0 + 1))) (M + 16))) (by rw [up2_n (a := M + 1) _ _ _ (by omega), up2_n (a := M + 1) _ _ _ (by omega), up2_n (a := M + 1) _ _ _ (by omega)]) ?_
    refine z_iconstN (pc := 71) C 0 dX7_burnsOf_71 ?_
    refine z_sipush (v := nI 9999) (pc := 72) C dX7_burnsOf_72 (by decide +kernel) ?_
    refine kX7_117 (pc := 75) C dX7_burnsOf_75 (m7_within κ.2.1 E S im_68 (s_val (im (M + 1)) tt m ((up2 (up2 (up2 im (M + 16) 0 (im (M + 1) (8 + 7 * l0 + 2))) (M + 16) 1 (im (M + 1) 4)) (M + 16) 2 (im (M + 1) (8 + 7 * l0 + 1))) (M + 16))) (nI 0) (nI 9999)) (by decide) (Nat.le_of_ble_eq_true rfl) (Nat.le_refl _) (Nat.le_refl _) (fun v_75 S_75 im_75 h_75 => ?_)
    obtain ⟨rfl, rfl, rfl⟩ := h_75
    first
    | exact j78 _ _ (by rw [s_plain, if_neg c_45]) (fun a h1 h2 => by rw [up2_n _ _ _ h2, up2_n _ _ _ h2, up2_n _ _ _ h2])
    | (rw [← hc]
       refine j78 _ _ ?_ (fun a h1 h2 => by rw [hfw a h1, up2_n _ _ _ h2, up2_n _ _ _ h2, up2_n _ _ _ h2])
       rw [s_plain, if_pos c_45, hc, nI_clamp (by have := hok.2.1.1; omega), s_len_eq hT]
       congr 1
       rw [s_val, s_val, evN_congr (fb := fa3 (im (M + 1) (8 + 7 * l0 + 2)) (im (M + 1) 4) (im (M + 1) (8 + 7 * l0 + 1))) (nnm_le 0) hT.2.2 (fun i hi => ?_) m (Nat.le_refl _)]
       have hi3 : i < 3 := hi
       rcases (show i = 0 ∨ i = 1 ∨ i = 2 by omega) with rfl | rfl | rfl <;> simp [up2_s, upd, fa3])
  · 
    refine z_bipushN (pc := 48) C 10 (by decide) dX7_burnsOf_48 ?_
    refine z_iload_n (pc := 50) C dX7_burnsOf_50 rfl ?_
    refine z_imul (pc := 51) C dX7_burnsOf_51 ?_
    refine z_aload_n (pc := 52) C dX7_burnsOf_52 rfl ?_
    refine gX7_9 (pc := 53) C dX7_burnsOf_53 (ml_K hM) (ml_r0 hM) ?_
    refine z_iconstN (pc := 56) C 4 dX7_burnsOf_56 ?_
    refine z_iald (pc := 57) C dX7_burnsOf_57 (ml_a1 hM) (ml_n1 hM) (by omega) (by decide) ?_
    refine z_eqi (y := im (M + 1) 4) (by rw [up2_n _ _ _ (by omega), up2_n _ _ _ (by omega), up2_n _ _ _ (by omega)]) ?_
    refine z_iload_n (pc := 58) C dX7_burnsOf_58 rfl ?_
    refine z_imul (pc := 59) C dX7_burnsOf_59 ?_
    refine z_iconstN (pc := 60) C 2 dX7_burnsOf_60 ?_
    refine z_idiv (pc := 61) C dX7_burnsOf_61 (by decide) ?_
    refine z_isub (pc := 62) C dX7_burnsOf_62 ?_
    refine z_goto (pc := 63) C 78 dX7_burnsOf_63 (by decide) ?_
    first
    | exact j78 _ _ (by rw [s_plain, if_neg c_45]) (fun a h1 h2 => by rw [up2_n _ _ _ h2, up2_n _ _ _ h2, up2_n _ _ _ h2])
    | (rw [← hc]
       refine j78 _ _ ?_ (fun a h1 h2 => by rw [hfw a h1, up2_n _ _ _ h2, up2_n _ _ _ h2, up2_n _ _ _ h2])
       rw [s_plain, if_pos c_45, hc, nI_clamp (by have := hok.2.1.1; omega), s_len_eq hT]
       congr 1
       rw [s_val, s_val, evN_congr (fb := fa3 (im (M + 1) (8 + 7 * l0 + 2)) (im (M + 1) 4) (im (M + 1) (8 + 7 * l0 + 1))) (nnm_le 0) hT.2.2 (fun i hi => ?_) m (Nat.le_refl _)]
       have hi3 : i < 3 := hi
       rcases (show i = 0 ∨ i = 1 ∨ i = 2 by omega) with rfl | rfl | rfl <;> simp [up2_s, upd, fa3])
def s_drink (k o m : Int32) : Int32 := let s := if k = nI 5 then nI 0 else if k = nI 4 then m / nI 10 + nI 5 else m / nI 10; if s ≤ o then s else o
set_option maxRecDepth 100000 in
set_option maxHeartbeats 4000000 in
theorem m7_drinksOf (l : Launch) (E : Ex) (S : Sx) (im : Mem) (M : Nat) (hM : ML S M) (l0 : Nat) (hl : l0 < 10) (m : Int32) : Mt l E yX7_drinksOf cX7_drinksOf 5 (some .int) 2 0 0 [.ref M, .int (nI l0), .int m] S im (pI (pE S im (s_drink (im (M + 1) (8 + 7 * l0 + 0)) (im (M + 1) (8 + 7 * l0 + 2)) m))) := by
  refine Mt.of (by decide +kernel) rfl rfl (Nat.le_of_ble_eq_true rfl) ?_
  intro κ hκ C ρ
  subst hκ
  show V E κ 5 0 0 0 [some (.ref M), some (.int (nI l0)), some (.int m), none, none] [] S im
  refine z_aload_n (pc := 0) C dX7_drinksOf_0 rfl ?_
  refine z_iload_n (pc := 1) C dX7_drinksOf_1 rfl ?_
  refine z_iconstN (pc := 2) C 0 dX7_drinksOf_2 ?_
  refine kX7_106 (pc := 3) C dX7_drinksOf_3 (m7_of κ.2.1 E S im M hM l0 0 hl (by decide)) (ml_K hM) (by decide) (Nat.le_of_ble_eq_true rfl) (Nat.le_refl _) (Nat.le_refl _) (fun v_3 S_3 im_3 h_3 => ?_)
  obtain ⟨rfl, rfl, rfl⟩ := h_3
  refine z_istore_n (pc := 6) C dX7_drinksOf_6 (by decide) rfl ?_
  refine z_iload_n (pc := 7) C dX7_drinksOf_7 rfl ?_
  refine z_iconstN (pc := 8) C 5 dX7_drinksOf_8 ?_
  have j_34 : ∀ s : Int32, s = (if im (M + 1) (8 + 7 * l0 + 0) = nI 5 then nI 0 else if im (M + 1) (8 + 7 * l0 + 0) = nI 4 then m / nI 10 + nI 5 else m / nI 10) → V E κ 5 0 0 34 [some (.ref M), some (.int (nI l0)), some (.int m), some (.int (im (M + 1) (8 + 7 * l0 + 0))), none] [.int s] S im := by
    intro s es
    refine z_istore (pc := 34) C dX7_drinksOf_34 (by decide) rfl ?_
    refine z_iload (pc := 36) C dX7_drinksOf_36 rfl ?_
    refine z_aload_n (pc := 38) C dX7_drinksOf_38 rfl ?_
    refine z_iload_n (pc := 39) C dX7_drinksOf_39 rfl ?_
    refine z_iconstN (pc := 40) C 2 dX7_drinksOf_40 ?_
    refine kX7_106 (pc := 41) C dX7_drinksOf_41 (m7_of κ.2.1 E S im M hM l0 2 hl (by decide)) (ml_K hM) (by decide) (Nat.le_of_ble_eq_true rfl) (Nat.le_refl _) (Nat.le_refl _) (fun v_41 S_41 im_41 h_41 => ?_)
    obtain ⟨rfl, rfl, rfl⟩ := h_41
    refine z_icmp_le (pc := 44) C 56 dX7_drinksOf_44 (by decide) (fun c_44 => ?_) (fun c_44 => ?_)
    · 
      refine z_iload (pc := 56) C dX7_drinksOf_56 rfl ?_
      exact z_iret (pc := 58) C ρ dX7_drinksOf_58 (⟨_, rfl, by simp only [s_drink, if_pos c_44, ← es], rfl, rfl⟩)
    · 
      refine z_aload_n (pc := 47) C dX7_drinksOf_47 rfl ?_
      refine z_iload_n (pc := 48) C dX7_drinksOf_48 rfl ?_
      refine z_iconstN (pc := 49) C 2 dX7_drinksOf_49 ?_
      refine kX7_106 (pc := 50) C dX7_drinksOf_50 (m7_of κ.2.1 E S im M hM l0 2 hl (by decide)) (ml_K hM) (by decide) (Nat.le_of_ble_eq_true rfl) (Nat.le_refl _) (Nat.le_refl _) (fun v_50 S_50 im_50 h_50 => ?_)
      obtain ⟨rfl, rfl, rfl⟩ := h_50
      refine z_goto (pc := 53) C 58 dX7_drinksOf_53 (by decide) ?_
      exact z_iret (pc := 58) C ρ dX7_drinksOf_58 (⟨_, rfl, by simp only [s_drink, if_neg c_44, ← es], rfl, rfl⟩)
  refine z_icmp_ne (pc := 9) C 16 dX7_drinksOf_9 (by decide) (fun c_9 => ?_) (fun c_9 => ?_)
  · 
    refine z_iload_n (pc := 16) C dX7_drinksOf_16 rfl ?_
    refine z_iconstN (pc := 17) C 4 dX7_drinksOf_17 ?_
    refine z_icmp_ne (pc := 18) C 30 dX7_drinksOf_18 (by decide) (fun c_18 => ?_) (fun c_18 => ?_)
    · 
      refine z_iload_n (pc := 30) C dX7_drinksOf_30 rfl ?_
      refine z_bipushN (pc := 31) C 10 (by decide) dX7_drinksOf_31 ?_
      refine z_idiv (pc := 33) C dX7_drinksOf_33 (by decide) ?_
      exact j_34 _ (by simp only [if_neg c_9, if_neg c_18])
    · 
      refine z_iload_n (pc := 21) C dX7_drinksOf_21 rfl ?_
      refine z_bipushN (pc := 22) C 10 (by decide) dX7_drinksOf_22 ?_
      refine z_idiv (pc := 24) C dX7_drinksOf_24 (by decide) ?_
      refine z_iconstN (pc := 25) C 5 dX7_drinksOf_25 ?_
      refine z_iadd (pc := 26) C dX7_drinksOf_26 ?_
      refine z_goto (pc := 27) C 34 dX7_drinksOf_27 (by decide) ?_
      exact j_34 _ (by simp only [if_neg c_9, if_pos c_18])
  · 
    refine z_iconstN (pc := 12) C 0 dX7_drinksOf_12 ?_
    refine z_goto (pc := 13) C 34 dX7_drinksOf_13 (by decide) ?_
    exact j_34 _ (by simp only [if_pos c_9])
def s_worth (k p : Int32) : Int32 := if k = nI 1 then p + nI 6 else if k = nI 2 then nI 99 - p else if k = nI 3 then nI 2 * (p + nI 6) else if k = nI 4 then nI 95 - p else if k = nI 5 then nI 3 else p
set_option maxRecDepth 100000 in
set_option maxHeartbeats 4000000 in
theorem m7_worthOf (l : Launch) (E : Ex) (S : Sx) (im : Mem) (M : Nat) (hM : ML S M) (l0 : Nat) (hl : l0 < 10) : Mt l E yX7_worthOf cX7_worthOf 3 (some .int) 2 0 0 [.ref M, .int (nI l0)] S im (pI (pE S im (s_worth (im (M + 1) (8 + 7 * l0 + 0)) (im (M + 1) (8 + 7 * l0 + 1))))) := by
  refine Mt.of (by decide +kernel) rfl rfl (Nat.le_of_ble_eq_true rfl) ?_
  intro κ hκ C ρ
  subst hκ
  show V E κ 3 0 0 0 [some (.ref M), some (.int (nI l0)), none] [] S im
  refine z_aload_n (pc := 0) C dX7_worthOf_0 rfl ?_
  refine z_iload_n (pc := 1) C dX7_worthOf_1 rfl ?_
  refine z_iconstN (pc := 2) C 1 dX7_worthOf_2 ?_
  refine kX7_106 (pc := 3) C dX7_worthOf_3 (m7_of κ.2.1 E S im M hM l0 1 hl (by decide)) (ml_K hM) (by decide) (Nat.le_of_ble_eq_true rfl) (Nat.le_refl _) (Nat.le_refl _) (fun v_3 S_3 im_3 h_3 => ?_)
  obtain ⟨rfl, rfl, rfl⟩ := h_3
  refine z_istore_n (pc := 6) C dX7_worthOf_6 (by decide) rfl ?_
  refine z_aload_n (pc := 7) C dX7_worthOf_7 rfl ?_
  refine z_iload_n (pc := 8) C dX7_worthOf_8 rfl ?_
  refine z_iconstN (pc := 9) C 0 dX7_worthOf_9 ?_
  refine kX7_106 (pc := 10) C dX7_worthOf_10 (m7_of κ.2.1 E S im M hM l0 0 hl (by decide)) (ml_K hM) (by decide) (Nat.le_of_ble_eq_true rfl) (Nat.le_refl _) (Nat.le_refl _) (fun v_10 S_10 im_10 h_10 => ?_)
  obtain ⟨rfl, rfl, rfl⟩ := h_10
  by_cases hs_1 : im (M + 1) (8 + 7 * l0 + 0) = nI 1
  · 
    refine z_eqi (y := nI 1) hs_1 ?_
    refine z_tableIn (off := 35) (pc := 13) C 48 dX7_worthOf_13 (by decide) (by decide) (by decide +kernel) (by decide) ?_
    refine z_iload_n (pc := 48) C dX7_worthOf_48 rfl ?_
    refine z_bipushN (pc := 49) C 6 (by decide) dX7_worthOf_49 ?_
    refine z_iadd (pc := 51) C dX7_worthOf_51 ?_
    exact z_iret (pc := 52) C ρ dX7_worthOf_52 (⟨_, rfl, by simp only [s_worth, if_pos hs_1], rfl, rfl⟩)
  by_cases hs_2 : im (M + 1) (8 + 7 * l0 + 0) = nI 2
  · 
    refine z_eqi (y := nI 2) hs_2 ?_
    refine z_tableIn (off := 40) (pc := 13) C 53 dX7_worthOf_13 (by decide) (by decide) (by decide +kernel) (by decide) ?_
    refine z_bipushN (pc := 53) C 99 (by decide) dX7_worthOf_53 ?_
    refine z_iload_n (pc := 55) C dX7_worthOf_55 rfl ?_
    refine z_isub (pc := 56) C dX7_worthOf_56 ?_
    exact z_iret (pc := 57) C ρ dX7_worthOf_57 (⟨_, rfl, by simp only [s_worth, if_neg hs_1, if_pos hs_2], rfl, rfl⟩)
  by_cases hs_3 : im (M + 1) (8 + 7 * l0 + 0) = nI 3
  · 
    refine z_eqi (y := nI 3) hs_3 ?_
    refine z_tableIn (off := 45) (pc := 13) C 58 dX7_worthOf_13 (by decide) (by decide) (by decide +kernel) (by decide) ?_
    refine z_iconstN (pc := 58) C 2 dX7_worthOf_58 ?_
    refine z_iload_n (pc := 59) C dX7_worthOf_59 rfl ?_
    refine z_bipushN (pc := 60) C 6 (by decide) dX7_worthOf_60 ?_
    refine z_iadd (pc := 62) C dX7_worthOf_62 ?_
    refine z_imul (pc := 63) C dX7_worthOf_63 ?_
    exact z_iret (pc := 64) C ρ dX7_worthOf_64 (⟨_, rfl, by simp only [s_worth, if_neg hs_1, if_neg hs_2, if_pos hs_3], rfl, rfl⟩)
  by_cases hs_4 : im (M + 1) (8 + 7 * l0 + 0) = nI 4
  · 
    refine z_eqi (y := nI 4) hs_4 ?_
    refine z_tableIn (off := 52) (pc := 13) C 65 dX7_worthOf_13 (by decide) (by decide) (by decide +kernel) (by decide) ?_
    refine z_bipushN (pc := 65) C 95 (by decide) dX7_worthOf_65 ?_
    refine z_iload_n (pc := 67) C dX7_worthOf_67 rfl ?_
    refine z_isub (pc := 68) C dX7_worthOf_68 ?_
    exact z_iret (pc := 69) C ρ dX7_worthOf_69 (⟨_, rfl, by simp only [s_worth, if_neg hs_1, if_neg hs_2, if_neg hs_3, if_pos hs_4], rfl, rfl⟩)
  by_cases hs_5 : im (M + 1) (8 + 7 * l0 + 0) = nI 5
  · 
    refine z_eqi (y := nI 5) hs_5 ?_
    refine z_tableIn (off := 57) (pc := 13) C 70 dX7_worthOf_13 (by decide) (by decide) (by decide +kernel) (by decide) ?_
    refine z_iconstN (pc := 70) C 3 dX7_worthOf_70 ?_
    exact z_iret (pc := 71) C ρ dX7_worthOf_71 (⟨_, rfl, by simp only [s_worth, if_neg hs_1, if_neg hs_2, if_neg hs_3, if_neg hs_4, if_pos hs_5], rfl, rfl⟩)
  refine z_tableOut (pc := 13) C 72 dX7_worthOf_13 (by have q_0 := lv_neT hs_1 (show (nI 1 : Int32).toInt = 1 by decide); have q_1 := lv_neT hs_2 (show (nI 2 : Int32).toInt = 2 by decide); have q_2 := lv_neT hs_3 (show (nI 3 : Int32).toInt = 3 by decide); have q_3 := lv_neT hs_4 (show (nI 4 : Int32).toInt = 4 by decide); have q_4 := lv_neT hs_5 (show (nI 5 : Int32).toInt = 5 by decide); omega) (by decide) ?_
  refine z_iload_n (pc := 72) C dX7_worthOf_72 rfl ?_
  exact z_iret (pc := 73) C ρ dX7_worthOf_73 (⟨_, rfl, by simp only [s_worth, if_neg hs_1, if_neg hs_2, if_neg hs_3, if_neg hs_4, if_neg hs_5], rfl, rfl⟩)
def s_under (k o : Int32) : Prop := o = 0 ∨ k = o ∨ (o = nI 1 ∧ k = nI 3) ∨ (o = nI 2 ∧ k = nI 4)
set_option maxRecDepth 100000 in
set_option maxHeartbeats 4000000 in
theorem m7_isUnder (l : Launch) (E : Ex) (S : Sx) (im : Mem) (k o : Int32) : Mt l E yX7_isUnder cX7_isUnder 2 (some .boolean) 1 0 0 [.int k, .int o] S im (pI (pB S im (s_under k o))) := by
  refine Mt.of (by decide +kernel) rfl rfl (Nat.le_of_ble_eq_true rfl) ?_
  intro κ hκ C ρ
  subst hκ
  show V E κ 2 0 0 0 [some (.int k), some (.int o)] [] S im
  refine z_iload_n (pc := 0) C dX7_isUnder_0 rfl ?_
  refine z_if_eq (pc := 1) C 29 dX7_isUnder_1 (by decide) (fun c_1 => ?_) (fun c_1 => ?_)
  · 
    refine z_iconstN (pc := 29) C 1 dX7_isUnder_29 ?_
    refine z_goto (pc := 30) C 34 dX7_isUnder_30 (by decide) ?_
    exact z_zret (pc := 34) C ρ dX7_isUnder_34 (by decide) (⟨_, rfl, by first | exact Or.inl ⟨by first | exact Or.inl c_1 | exact Or.inr (Or.inl c_6) | exact Or.inr (Or.inr (Or.inl ⟨c_11, c_16⟩)) | exact Or.inr (Or.inr (Or.inr ⟨c_21, c_26⟩)), rfl, rfl, rfl⟩ | exact Or.inr ⟨by rintro (h | h | ⟨h, h2⟩ | ⟨h, h2⟩) <;> first | exact c_1 h | exact c_6 h | exact c_11 h | exact c_16 h2 | exact c_21 h | exact c_26 h2, rfl, rfl, rfl⟩⟩)
  · 
    refine z_iload_n (pc := 4) C dX7_isUnder_4 rfl ?_
    refine z_iload_n (pc := 5) C dX7_isUnder_5 rfl ?_
    refine z_icmp_eq (pc := 6) C 29 dX7_isUnder_6 (by decide) (fun c_6 => ?_) (fun c_6 => ?_)
    · 
      refine z_iconstN (pc := 29) C 1 dX7_isUnder_29 ?_
      refine z_goto (pc := 30) C 34 dX7_isUnder_30 (by decide) ?_
      exact z_zret (pc := 34) C ρ dX7_isUnder_34 (by decide) (⟨_, rfl, by first | exact Or.inl ⟨by first | exact Or.inl c_1 | exact Or.inr (Or.inl c_6) | exact Or.inr (Or.inr (Or.inl ⟨c_11, c_16⟩)) | exact Or.inr (Or.inr (Or.inr ⟨c_21, c_26⟩)), rfl, rfl, rfl⟩ | exact Or.inr ⟨by rintro (h | h | ⟨h, h2⟩ | ⟨h, h2⟩) <;> first | exact c_1 h | exact c_6 h | exact c_11 h | exact c_16 h2 | exact c_21 h | exact c_26 h2, rfl, rfl, rfl⟩⟩)
    · 
      refine z_iload_n (pc := 9) C dX7_isUnder_9 rfl ?_
      refine z_iconstN (pc := 10) C 1 dX7_isUnder_10 ?_
      refine z_icmp_ne (pc := 11) C 19 dX7_isUnder_11 (by decide) (fun c_11 => ?_) (fun c_11 => ?_)
      · 
        refine z_iload_n (pc := 19) C dX7_isUnder_19 rfl ?_
        refine z_iconstN (pc := 20) C 2 dX7_isUnder_20 ?_
        refine z_icmp_ne (pc := 21) C 33 dX7_isUnder_21 (by decide) (fun c_21 => ?_) (fun c_21 => ?_)
        · 
          refine z_iconstN (pc := 33) C 0 dX7_isUnder_33 ?_
          exact z_zret (pc := 34) C ρ dX7_isUnder_34 (by decide) (⟨_, rfl, by first | exact Or.inl ⟨by first | exact Or.inl c_1 | exact Or.inr (Or.inl c_6) | exact Or.inr (Or.inr (Or.inl ⟨c_11, c_16⟩)) | exact Or.inr (Or.inr (Or.inr ⟨c_21, c_26⟩)), rfl, rfl, rfl⟩ | exact Or.inr ⟨by rintro (h | h | ⟨h, h2⟩ | ⟨h, h2⟩) <;> first | exact c_1 h | exact c_6 h | exact c_11 h | exact c_16 h2 | exact c_21 h | exact c_26 h2, rfl, rfl, rfl⟩⟩)
        · 
          refine z_iload_n (pc := 24) C dX7_isUnder_24 rfl ?_
          refine z_iconstN (pc := 25) C 4 dX7_isUnder_25 ?_
          refine z_icmp_ne (pc := 26) C 33 dX7_isUnder_26 (by decide) (fun c_26 => ?_) (fun c_26 => ?_)
          · 
            refine z_iconstN (pc := 33) C 0 dX7_isUnder_33 ?_
            exact z_zret (pc := 34) C ρ dX7_isUnder_34 (by decide) (⟨_, rfl, by first | exact Or.inl ⟨by first | exact Or.inl c_1 | exact Or.inr (Or.inl c_6) | exact Or.inr (Or.inr (Or.inl ⟨c_11, c_16⟩)) | exact Or.inr (Or.inr (Or.inr ⟨c_21, c_26⟩)), rfl, rfl, rfl⟩ | exact Or.inr ⟨by rintro (h | h | ⟨h, h2⟩ | ⟨h, h2⟩) <;> first | exact c_1 h | exact c_6 h | exact c_11 h | exact c_16 h2 | exact c_21 h | exact c_26 h2, rfl, rfl, rfl⟩⟩)
          · 
            refine z_iconstN (pc := 29) C 1 dX7_isUnder_29 ?_
            refine z_goto (pc := 30) C 34 dX7_isUnder_30 (by decide) ?_
            exact z_zret (pc := 34) C ρ dX7_isUnder_34 (by decide) (⟨_, rfl, by first | exact Or.inl ⟨by first | exact Or.inl c_1 | exact Or.inr (Or.inl c_6) | exact Or.inr (Or.inr (Or.inl ⟨c_11, c_16⟩)) | exact Or.inr (Or.inr (Or.inr ⟨c_21, c_26⟩)), rfl, rfl, rfl⟩ | exact Or.inr ⟨by rintro (h | h | ⟨h, h2⟩ | ⟨h, h2⟩) <;> first | exact c_1 h | exact c_6 h | exact c_11 h | exact c_16 h2 | exact c_21 h | exact c_26 h2, rfl, rfl, rfl⟩⟩)
      · 
        refine z_iload_n (pc := 14) C dX7_isUnder_14 rfl ?_
        refine z_iconstN (pc := 15) C 3 dX7_isUnder_15 ?_
        refine z_icmp_eq (pc := 16) C 29 dX7_isUnder_16 (by decide) (fun c_16 => ?_) (fun c_16 => ?_)
        · 
          refine z_iconstN (pc := 29) C 1 dX7_isUnder_29 ?_
          refine z_goto (pc := 30) C 34 dX7_isUnder_30 (by decide) ?_
          exact z_zret (pc := 34) C ρ dX7_isUnder_34 (by decide) (⟨_, rfl, by first | exact Or.inl ⟨by first | exact Or.inl c_1 | exact Or.inr (Or.inl c_6) | exact Or.inr (Or.inr (Or.inl ⟨c_11, c_16⟩)) | exact Or.inr (Or.inr (Or.inr ⟨c_21, c_26⟩)), rfl, rfl, rfl⟩ | exact Or.inr ⟨by rintro (h | h | ⟨h, h2⟩ | ⟨h, h2⟩) <;> first | exact c_1 h | exact c_6 h | exact c_11 h | exact c_16 h2 | exact c_21 h | exact c_26 h2, rfl, rfl, rfl⟩⟩)
        · 
          refine z_iload_n (pc := 19) C dX7_isUnder_19 rfl ?_
          refine z_iconstN (pc := 20) C 2 dX7_isUnder_20 ?_
          refine z_icmp_ne (pc := 21) C 33 dX7_isUnder_21 (by decide) (fun c_21 => ?_) (fun c_21 => ?_)
          · 
            refine z_iconstN (pc := 33) C 0 dX7_isUnder_33 ?_
            exact z_zret (pc := 34) C ρ dX7_isUnder_34 (by decide) (⟨_, rfl, by first | exact Or.inl ⟨by first | exact Or.inl c_1 | exact Or.inr (Or.inl c_6) | exact Or.inr (Or.inr (Or.inl ⟨c_11, c_16⟩)) | exact Or.inr (Or.inr (Or.inr ⟨c_21, c_26⟩)), rfl, rfl, rfl⟩ | exact Or.inr ⟨by rintro (h | h | ⟨h, h2⟩ | ⟨h, h2⟩) <;> first | exact c_1 h | exact c_6 h | exact c_11 h | exact c_16 h2 | exact c_21 h | exact c_26 h2, rfl, rfl, rfl⟩⟩)
          · 
            refine z_iload_n (pc := 24) C dX7_isUnder_24 rfl ?_
            refine z_iconstN (pc := 25) C 4 dX7_isUnder_25 ?_
            refine z_icmp_ne (pc := 26) C 33 dX7_isUnder_26 (by decide) (fun c_26 => ?_) (fun c_26 => ?_)
            · 
              refine z_iconstN (pc := 33) C 0 dX7_isUnder_33 ?_
              exact z_zret (pc := 34) C ρ dX7_isUnder_34 (by decide) (⟨_, rfl, by first | exact Or.inl ⟨by first | exact Or.inl c_1 | exact Or.inr (Or.inl c_6) | exact Or.inr (Or.inr (Or.inl ⟨c_11, c_16⟩)) | exact Or.inr (Or.inr (Or.inr ⟨c_21, c_26⟩)), rfl, rfl, rfl⟩ | exact Or.inr ⟨by rintro (h | h | ⟨h, h2⟩ | ⟨h, h2⟩) <;> first | exact c_1 h | exact c_6 h | exact c_11 h | exact c_16 h2 | exact c_21 h | exact c_26 h2, rfl, rfl, rfl⟩⟩)
            · 
              refine z_iconstN (pc := 29) C 1 dX7_isUnder_29 ?_
              refine z_goto (pc := 30) C 34 dX7_isUnder_30 (by decide) ?_
              exact z_zret (pc := 34) C ρ dX7_isUnder_34 (by decide) (⟨_, rfl, by first | exact Or.inl ⟨by first | exact Or.inl c_1 | exact Or.inr (Or.inl c_6) | exact Or.inr (Or.inr (Or.inl ⟨c_11, c_16⟩)) | exact Or.inr (Or.inr (Or.inr ⟨c_21, c_26⟩)), rfl, rfl, rfl⟩ | exact Or.inr ⟨by rintro (h | h | ⟨h, h2⟩ | ⟨h, h2⟩) <;> first | exact c_1 h | exact c_6 h | exact c_11 h | exact c_16 h2 | exact c_21 h | exact c_26 h2, rfl, rfl, rfl⟩⟩)
def s_turn (f : Nat → Int32) (l0 : Nat) : Int32 := if f 3 = 0 then f (8 + 7 * l0 + 4) else if f 3 = nI 1 then 0 - f (8 + 7 * l0 + 4) else f (8 + 7 * l0 + 1)
set_option maxRecDepth 100000 in
set_option maxHeartbeats 4000000 in
theorem m7_turnOf (l : Launch) (E : Ex) (S : Sx) (im : Mem) (M : Nat) (hM : ML S M) (l0 : Nat) (hl : l0 < 10) : Mt l E yX7_turnOf cX7_turnOf 2 (some .int) 2 0 0 [.ref M, .int (nI l0)] S im (pI (pE S im (s_turn (im (M + 1)) l0))) := by
  refine Mt.of (by decide +kernel) rfl rfl (Nat.le_of_ble_eq_true rfl) ?_
  intro κ hκ C ρ
  subst hκ
  show V E κ 2 0 0 0 [some (.ref M), some (.int (nI l0))] [] S im
  refine z_aload_n (pc := 0) C dX7_turnOf_0 rfl ?_
  refine gX7_9 (pc := 1) C dX7_turnOf_1 (ml_K hM) (ml_r0 hM) ?_
  refine z_iconstN (pc := 4) C 3 dX7_turnOf_4 ?_
  refine z_iald (pc := 5) C dX7_turnOf_5 (ml_a1 hM) (ml_n1 hM) (by omega) (by decide) ?_
  refine z_if_ne (pc := 6) C 18 dX7_turnOf_6 (by decide) (fun c_6 => ?_) (fun c_6 => ?_)
  · 
    refine z_aload_n (pc := 18) C dX7_turnOf_18 rfl ?_
    refine gX7_9 (pc := 19) C dX7_turnOf_19 (ml_K hM) (ml_r0 hM) ?_
    refine z_iconstN (pc := 22) C 3 dX7_turnOf_22 ?_
    refine z_iald (pc := 23) C dX7_turnOf_23 (ml_a1 hM) (ml_n1 hM) (by omega) (by decide) ?_
    refine z_iconstN (pc := 24) C 1 dX7_turnOf_24 ?_
    refine z_icmp_ne (pc := 25) C 38 dX7_turnOf_25 (by decide) (fun c_25 => ?_) (fun c_25 => ?_)
    · 
      refine z_aload_n (pc := 38) C dX7_turnOf_38 rfl ?_
      refine z_iload_n (pc := 39) C dX7_turnOf_39 rfl ?_
      refine z_iconstN (pc := 40) C 1 dX7_turnOf_40 ?_
      refine kX7_106 (pc := 41) C dX7_turnOf_41 (m7_of κ.2.1 E S im M hM l0 1 hl (by decide)) (ml_K hM) (by decide) (Nat.le_of_ble_eq_true rfl) (Nat.le_refl _) (Nat.le_refl _) (fun v_41 S_41 im_41 h_41 => ?_)
      obtain ⟨rfl, rfl, rfl⟩ := h_41
      exact z_iret (pc := 44) C ρ dX7_turnOf_44 (⟨_, rfl, by simp only [s_turn, if_neg c_6, if_neg c_25], rfl, rfl⟩)
    · 
      refine z_aload_n (pc := 28) C dX7_turnOf_28 rfl ?_
      refine z_iload_n (pc := 29) C dX7_turnOf_29 rfl ?_
      refine z_iconstN (pc := 30) C 4 dX7_turnOf_30 ?_
      refine kX7_106 (pc := 31) C dX7_turnOf_31 (m7_of κ.2.1 E S im M hM l0 4 hl (by decide)) (ml_K hM) (by decide) (Nat.le_of_ble_eq_true rfl) (Nat.le_refl _) (Nat.le_refl _) (fun v_31 S_31 im_31 h_31 => ?_)
      obtain ⟨rfl, rfl, rfl⟩ := h_31
      refine z_ineg (pc := 34) C dX7_turnOf_34 ?_
      refine z_goto (pc := 35) C 44 dX7_turnOf_35 (by decide) ?_
      exact z_iret (pc := 44) C ρ dX7_turnOf_44 (⟨_, rfl, by simp only [s_turn, if_neg c_6, if_pos c_25], rfl, rfl⟩)
  · 
    refine z_aload_n (pc := 9) C dX7_turnOf_9 rfl ?_
    refine z_iload_n (pc := 10) C dX7_turnOf_10 rfl ?_
    refine z_iconstN (pc := 11) C 4 dX7_turnOf_11 ?_
    refine kX7_106 (pc := 12) C dX7_turnOf_12 (m7_of κ.2.1 E S im M hM l0 4 hl (by decide)) (ml_K hM) (by decide) (Nat.le_of_ble_eq_true rfl) (Nat.le_refl _) (Nat.le_refl _) (fun v_12 S_12 im_12 h_12 => ?_)
    obtain ⟨rfl, rfl, rfl⟩ := h_12
    refine z_goto (pc := 15) C 44 dX7_turnOf_15 (by decide) ?_
    exact z_iret (pc := 44) C ρ dX7_turnOf_44 (⟨_, rfl, by simp only [s_turn, if_pos c_6], rfl, rfl⟩)
