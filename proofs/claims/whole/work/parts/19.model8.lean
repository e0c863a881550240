/-! the reference: nights, rules, lamps by lot -/
def k_nights (f : Nat → Int32) (x : Int32) : Nat := (s_within (nI 9999 - f 2) (nI 0) x).toNatClampNeg
def r_nights (f : Nat → Int32) (n n7 : Nat) (x : Int32) : Int32 := if nI 1 ≤ x ∧ x ≤ nI 100 then s_nights f n n7 (-1) (k_nights f x) 6 - f 6 else -1000000001
def f_nights (f : Nat → Int32) (n n7 : Nat) (x : Int32) : Nat → Int32 := if nI 1 ≤ x ∧ x ≤ nI 100 then s_nights f n n7 (-1) (k_nights f x) else f
theorem s_within_nI {v : Int32} {b : Nat} (hb : b < 2 ^ 31) : ∃ j, j ≤ b ∧ s_within v (nI 0) (nI b) = nI j := by
  unfold s_within
  by_cases h : nI 0 ≤ v
  · rw [if_pos h]
    by_cases h2 : v ≤ nI b
    · rw [if_pos h2]
      obtain ⟨j, -, hj, e⟩ := (rng (by decide) hb).mp ⟨h, h2⟩
      exact ⟨j, hj, e⟩
    · rw [if_neg h2]; exact ⟨b, Nat.le_refl _, rfl⟩
  · rw [if_neg h]; exact ⟨0, Nat.zero_le _, rfl⟩
set_option maxRecDepth 100000 in
set_option maxHeartbeats 4000000 in
theorem m7_nights (l : Launch) (E : Ex) (S : Sx) (im : Mem) (M : Nat) (hM : ML S M) (n n7 : Nat) (f : Nat → Int32) (hf0 : im (M + 1) = f) (hok : MOk f n n7) (hidle : im M 4 = -1) (x : Int32) : Mt l E yX7_nights cX7_nights 3 (some .int) 7 0 0 [.ref M, .int x] S im (pI (pP S im M (r_nights f n n7 x) (f_nights f n n7 x))) := by
  refine Mt.of (by decide +kernel) rfl rfl (Nat.le_of_ble_eq_true rfl) ?_
  intro κ hκ C ρ
  subst hκ
  show V E κ 3 0 0 0 [some (.ref M), some (.int x), none] [] S im
  refine z_iload_n (pc := 0) C dX7_nights_0 rfl ?_
  refine z_iconstN (pc := 1) C 1 dX7_nights_1 ?_
  refine z_bipushN (pc := 2) C 100 (by decide) dX7_nights_2 ?_
  refine kX7_92 (pc := 4) C dX7_nights_4 (m7_in κ.2.1 E S im (x) (nI 1) (nI 100)) (by decide) (Nat.le_of_ble_eq_true rfl) (Nat.le_refl _) (Nat.le_refl _) (fun v_4 S_4 im_4 h_4 => ?_)
  rcases h_4 with ⟨hb_4, rfl, rfl, rfl⟩ | ⟨hb_4, rfl, rfl, rfl⟩
  · 
    obtain ⟨x0, hx00, hx0, rfl⟩ := (rng (by decide) (by decide)).mp hb_4
    obtain ⟨j, hj, ej⟩ := s_within_nI (v := nI 9999 - f 2) (b := x0) (by omega)
    refine z_if_neT (pc := 7) C 13 dX7_nights_7 (by decide) (by decide) ?_
    refine z_aload_n (pc := 13) C dX7_nights_13 rfl ?_
    refine gX7_9 (pc := 14) C dX7_nights_14 (ml_K hM) (ml_r0 hM) ?_
    refine z_bipushN (pc := 17) C 6 (by decide) dX7_nights_17 ?_
    refine z_iald (pc := 19) C dX7_nights_19 (ml_a1 hM) (ml_n1 hM) (by omega) (by decide) ?_
    refine z_eqi (y := f 6) (by rw [hf0]) ?_
    refine z_istore_n (pc := 20) C dX7_nights_20 (by decide) rfl ?_
    refine z_aload_n (pc := 21) C dX7_nights_21 rfl ?_
    refine z_sipush (v := nI 9999) (pc := 22) C dX7_nights_22 (by decide +kernel) ?_
    refine z_aload_n (pc := 25) C dX7_nights_25 rfl ?_
    refine gX7_9 (pc := 26) C dX7_nights_26 (ml_K hM) (ml_r0 hM) ?_
    refine z_iconstN (pc := 29) C 2 dX7_nights_29 ?_
    refine z_iald (pc := 30) C dX7_nights_30 (ml_a1 hM) (ml_n1 hM) (by omega) (by decide) ?_
    refine z_eqi (y := f 2) (by rw [hf0]) ?_
    refine z_isub (pc := 31) C dX7_nights_31 ?_
    refine z_iconstN (pc := 32) C 0 dX7_nights_32 ?_
    refine z_iload_n (pc := 33) C dX7_nights_33 rfl ?_
    refine kX7_117 (pc := 34) C dX7_nights_34 (m7_within κ.2.1 E S im (nI 9999 - f 2) (nI 0) (nI x0)) (by decide) (Nat.le_of_ble_eq_true rfl) (Nat.le_refl _) (Nat.le_refl _) (fun v_34 S_34 im_34 h_34 => ?_)
    obtain ⟨rfl, rfl, rfl⟩ := h_34
    refine z_eqi (y := nI j) (ej) ?_
    refine kX7_166 (pc := 37) C dX7_nights_37 (m7_goesOn κ.2.1 E S im M hM n n7 f hf0 hok (-1) hidle j (by omega)) (ml_K hM) (by decide) (Nat.le_of_ble_eq_true rfl) (Nat.le_refl _) (Nat.le_refl _) (fun S_37 im_37 h_37 => ?_)
    obtain ⟨rfl, hm, hfr⟩ := h_37
    refine z_aload_n (pc := 40) C dX7_nights_40 rfl ?_
    refine gX7_9 (pc := 41) C dX7_nights_41 (ml_K hM) (ml_r0 hM) ?_
    refine z_bipushN (pc := 44) C 6 (by decide) dX7_nights_44 ?_
    refine z_iald (pc := 46) C dX7_nights_46 (ml_a1 hM) (ml_n1 hM) (by omega) (by decide) ?_
    refine z_eqi (y := s_nights f n n7 (-1) j 6) (by rw [hm]) ?_
    refine z_iload_n (pc := 47) C dX7_nights_47 rfl ?_
    refine z_isub (pc := 48) C dX7_nights_48 ?_
    exact z_iret (pc := 49) C ρ dX7_nights_49 (⟨_, rfl, by simp only [r_nights, k_nights, if_pos hb_4, ej, nI_clamp (show j < 2 ^ 31 by omega)], rfl, by simp only [f_nights, k_nights, if_pos hb_4, ej, nI_clamp (show j < 2 ^ 31 by omega)]; exact hm, hfr.P⟩)
  · 
    refine z_if_neF (pc := 7) C 13 dX7_nights_7 (by decide) (by decide) ?_
    refine z_ldc (pc := 10) C dX7_nights_10 wk_X7_100 ?_
    exact z_iret (pc := 12) C ρ dX7_nights_12 (⟨_, rfl, by simp only [r_nights, if_neg hb_4], rfl, by simp only [f_nights, if_neg hb_4]; exact hf0, frP.rf⟩)
def r_rule (f : Nat → Int32) (w x : Int32) : Int32 := if nI 0 ≤ w ∧ w ≤ nI 2 then (if (if w = nI 2 then nI 60 else nI 0) ≤ x ∧ x ≤ (if w = 0 then nI 2 else if w = nI 1 then nI 9 else nI 999) then f (3 + w.toNatClampNeg) else -1000000001) else -1000000001
def f_rule (f : Nat → Int32) (w x : Int32) : Nat → Int32 := if nI 0 ≤ w ∧ w ≤ nI 2 then (if (if w = nI 2 then nI 60 else nI 0) ≤ x ∧ x ≤ (if w = 0 then nI 2 else if w = nI 1 then nI 9 else nI 999) then upd f (3 + w.toNatClampNeg) x else f) else f
set_option maxRecDepth 100000 in
set_option maxHeartbeats 4000000 in
theorem m7_rule (l : Launch) (E : Ex) (S : Sx) (im : Mem) (M : Nat) (hM : ML S M) (n n7 : Nat) (f : Nat → Int32) (hf0 : im (M + 1) = f) (hok : MOk f n n7) (w x : Int32) : Mt l E yX7_rule cX7_rule 3 (some .int) 2 0 0 [.ref M, .int w, .int x] S im (pI (pP S im M (r_rule f w x) (f_rule f w x))) := by
  refine Mt.of (by decide +kernel) rfl rfl (Nat.le_of_ble_eq_true rfl) ?_
  intro κ hκ C ρ
  subst hκ
  show V E κ 3 0 0 0 [some (.ref M), some (.int w), some (.int x)] [] S im
  refine z_iload_n (pc := 0) C dX7_rule_0 rfl ?_
  refine z_iconstN (pc := 1) C 0 dX7_rule_1 ?_
  refine z_iconstN (pc := 2) C 2 dX7_rule_2 ?_
  refine kX7_92 (pc := 3) C dX7_rule_3 (m7_in κ.2.1 E S im (w) (nI 0) (nI 2)) (by decide) (Nat.le_of_ble_eq_true rfl) (Nat.le_refl _) (Nat.le_refl _) (fun v_3 S_3 im_3 h_3 => ?_)
  rcases h_3 with ⟨hb_3, rfl, rfl, rfl⟩ | ⟨hb_3, rfl, rfl, rfl⟩
  · 
    obtain ⟨w0, hw00, hw0, rfl⟩ := (rng (by decide) (by decide)).mp hb_3
    have hcw : (nI w0).toNatClampNeg = w0 := nI_clamp (by omega)
    refine z_if_eqF (pc := 6) C 48 dX7_rule_6 (by decide) (by decide) ?_
    refine z_iload_n (pc := 9) C dX7_rule_9 rfl ?_
    refine z_iload_n (pc := 10) C dX7_rule_10 rfl ?_
    refine z_iconstN (pc := 11) C 2 dX7_rule_11 ?_
    have j_21 : ∀ lo : Int32, lo = (if nI w0 = nI 2 then nI 60 else nI 0) → V E κ 3 0 0 21 [some (.ref M), some (.int (nI w0)), some (.int x)] [.int lo, .int x] S im := by
      intro lo elo
      refine z_iload_n (pc := 21) C dX7_rule_21 rfl ?_
      have j_42 : ∀ hi : Int32, hi = (if nI w0 = 0 then nI 2 else if nI w0 = nI 1 then nI 9 else nI 999) → V E κ 3 0 0 42 [some (.ref M), some (.int (nI w0)), some (.int x)] [.int hi, .int lo, .int x] S im := by
        intro hi ehi
        refine kX7_92 (pc := 42) C dX7_rule_42 (m7_in κ.2.1 E S im x lo hi) (by decide) (Nat.le_of_ble_eq_true rfl) (Nat.le_refl _) (Nat.le_refl _) (fun v_42 S_42 im_42 h_42 => ?_)
        rcases h_42 with ⟨hb_42, rfl, rfl, rfl⟩ | ⟨hb_42, rfl, rfl, rfl⟩
        · 
          rw [elo, ehi] at hb_42
          refine z_if_neT (pc := 45) C 51 dX7_rule_45 (by decide) (by decide) ?_
          refine z_aload_n (pc := 51) C dX7_rule_51 rfl ?_
          refine z_iconstN (pc := 52) C 3 dX7_rule_52 ?_
          refine z_iload_n (pc := 53) C dX7_rule_53 rfl ?_
          refine z_iaddN (pc := 54) C dX7_rule_54 ?_
          refine z_iload_n (pc := 55) C dX7_rule_55 rfl ?_
          refine kX7_139 (pc := 56) C dX7_rule_56 (m7_becomes κ.2.1 E S im M hM (3 + w0) (by omega) x) (ml_K hM) (by decide) (Nat.le_of_ble_eq_true rfl) (Nat.le_refl _) (Nat.le_refl _) (fun v_56 S_56 im_56 h_56 => ?_)
          obtain ⟨rfl, rfl, rfl⟩ := h_56
          exact z_iret (pc := 59) C ρ dX7_rule_59 (⟨_, rfl, by simp only [r_rule, if_pos hb_3, if_pos hb_42, hf0, hcw], rfl, by simp only [f_rule, if_pos hb_3, if_pos hb_42, hcw]; rw [up2_s, hf0], frP.up⟩)
        · 
          rw [elo, ehi] at hb_42
          refine z_if_neF (pc := 45) C 51 dX7_rule_45 (by decide) (by decide) ?_
          refine z_ldc (pc := 48) C dX7_rule_48 wk_X7_100 ?_
          exact z_iret (pc := 50) C ρ dX7_rule_50 (⟨_, rfl, by first | simp only [r_rule, if_neg hb_3] | simp only [r_rule, if_pos hb_3, if_neg hb_42], rfl, by first | (simp only [f_rule, if_neg hb_3]; exact hf0) | (simp only [f_rule, if_pos hb_3, if_neg hb_42]; exact hf0), frP.rf⟩)
      refine z_if_ne (pc := 22) C 29 dX7_rule_22 (by decide) (fun c_22 => ?_) (fun c_22 => ?_)
      · 
        refine z_iload_n (pc := 29) C dX7_rule_29 rfl ?_
        refine z_iconstN (pc := 30) C 1 dX7_rule_30 ?_
        refine z_icmp_ne (pc := 31) C 39 dX7_rule_31 (by decide) (fun c_31 => ?_) (fun c_31 => ?_)
        · 
          refine z_sipush (v := nI 999) (pc := 39) C dX7_rule_39 (by decide +kernel) ?_
          exact j_42 _ (by simp only [if_pos hb_3, if_neg c_22, if_neg c_31])
        · 
          refine z_bipushN (pc := 34) C 9 (by decide) dX7_rule_34 ?_
          refine z_goto (pc := 36) C 42 dX7_rule_36 (by decide) ?_
          exact j_42 _ (by simp only [if_pos hb_3, if_neg c_22, if_pos c_31])
      · 
        refine z_iconstN (pc := 25) C 2 dX7_rule_25 ?_
        refine z_goto (pc := 26) C 42 dX7_rule_26 (by decide) ?_
        exact j_42 _ (by simp only [if_pos hb_3, if_pos c_22])
    refine z_icmp_ne (pc := 12) C 20 dX7_rule_12 (by decide) (fun c_12 => ?_) (fun c_12 => ?_)
    · 
      refine z_iconstN (pc := 20) C 0 dX7_rule_20 ?_
      exact j_21 _ (by simp only [if_pos hb_3, if_neg c_12])
    · 
      refine z_bipushN (pc := 15) C 60 (by decide) dX7_rule_15 ?_
      refine z_goto (pc := 17) C 21 dX7_rule_17 (by decide) ?_
      exact j_21 _ (by simp only [if_pos hb_3, if_pos c_12])
  · 
    refine z_if_eqT (pc := 6) C 48 dX7_rule_6 (by decide) (by decide) ?_
    refine z_ldc (pc := 48) C dX7_rule_48 wk_X7_100 ?_
    exact z_iret (pc := 50) C ρ dX7_rule_50 (⟨_, rfl, by first | simp only [r_rule, if_neg hb_3] | simp only [r_rule, if_pos hb_3, if_neg hb_42], rfl, by first | (simp only [f_rule, if_neg hb_3]; exact hf0) | (simp only [f_rule, if_pos hb_3, if_neg hb_42]; exact hf0), frP.rf⟩)
def s_rem (z : Int32) (q : Nat) : Int32 := s_sh z - s_sh z / nI q * nI q
def s_deal1 (f : Nat → Int32) (n : Nat) : Nat → Int32 := s_comes (upd f 0 (s_z (s_z (s_z (s_z (f 0)))))) n (s_rem (s_z (f 0)) 6) (s_rem (s_z (s_z (f 0))) 60) (s_rem (s_z (s_z (s_z (f 0)))) 80) (s_rem (s_z (s_z (s_z (s_z (f 0))))) 40)
def s_deal (f : Nat → Int32) (n : Nat) : Nat → Nat → Int32
  | 0 => f
  | k + 1 => s_deal1 (s_deal f n k) (n + k)
def k_deal (n x : Nat) : Nat := if x ≤ 10 - n then x else 10 - n
def r_deal (n : Nat) (x : Int32) : Int32 := if nI 1 ≤ x ∧ x ≤ nI 10 then nI (k_deal n x.toNatClampNeg) else -1000000001
def f_deal (f : Nat → Int32) (n : Nat) (x : Int32) : Nat → Int32 := if nI 1 ≤ x ∧ x ≤ nI 10 then s_deal f n (k_deal n x.toNatClampNeg) else f
theorem deal1_1 (f : Nat → Int32) (n : Nat) : s_deal1 f n 1 = nI (n + 1) := by unfold s_deal1 s_comes; exact upd_s _ _ _
theorem deal_1 {f : Nat → Int32} {n : Nat} (h : f 1 = nI n) : ∀ k, s_deal f n k 1 = nI (n + k) := by
  intro k
  cases k with
  | zero => exact h
  | succ k => rw [s_deal, deal1_1]; rfl
theorem upd4 (h : Nat → Int32) (a b c d : Int32) : upd (upd (upd (upd h 0 a) 0 b) 0 c) 0 d = upd h 0 d := by
  funext j
  by_cases e : j = 0
  · subst e; rw [upd_s, upd_s]
  · rw [upd_n _ _ e, upd_n _ _ e, upd_n _ _ e, upd_n _ _ e, upd_n _ _ e]
set_option maxRecDepth 100000 in
set_option maxHeartbeats 4000000 in
theorem m7_deal (l : Launch) (E : Ex) (S : Sx) (im : Mem) (M : Nat) (hM : ML S M) (n n7 : Nat) (f : Nat → Int32) (hf0 : im (M + 1) = f) (hok : MOk f n n7) (x : Int32) : Mt l E yX7_deal cX7_deal 7 (some .int) 3 0 0 [.ref M, .int x] S im (pI (pP S im M (r_deal n x) (f_deal f n x))) := by
  refine Mt.of (by decide +kernel) rfl rfl (Nat.le_of_ble_eq_true rfl) ?_
  intro κ hκ C ρ
  subst hκ
  show V E κ 7 0 0 0 [some (.ref M), some (.int x), none, none, none, none, none] [] S im
  have hn10 := hok.1.1
  refine z_iload_n (pc := 0) C dX7_deal_0 rfl ?_
  refine z_iconstN (pc := 1) C 1 dX7_deal_1 ?_
  refine z_bipushN (pc := 2) C 10 (by decide) dX7_deal_2 ?_
  refine kX7_92 (pc := 4) C dX7_deal_4 (m7_in κ.2.1 E S im (x) (nI 1) (nI 10)) (by decide) (Nat.le_of_ble_eq_true rfl) (Nat.le_refl _) (Nat.le_refl _) (fun v_4 S_4 im_4 h_4 => ?_)
  rcases h_4 with ⟨hb_4, rfl, rfl, rfl⟩ | ⟨hb_4, rfl, rfl, rfl⟩
  · 
    obtain ⟨x0, hx00, hx0, rfl⟩ := (rng (by decide) (by decide)).mp hb_4
    have hkx : (nI x0).toNatClampNeg = x0 := nI_clamp (by omega)
    have loop : ∀ (r k : Nat) (im' : Mem) (y3 y4 y5 y6 : Option Value), k + r = k_deal n x0 → im' (M + 1) = s_deal f n k → frP M im im' → V E κ 7 0 0 15 [some (.ref M), some (.int (nI x0)), some (.int (nI k)), y3, y4, y5, y6] [] S im' := by
      intro r
      induction r with
      | zero =>
        intro k im' y3 y4 y5 y6 hk hm hfr
        have hkk : k_deal n x0 = k := by omega
        by_cases hc : x0 ≤ 10 - n
        · have hk3 : x0 = k := by rw [k_deal, if_pos hc] at hkk; exact hkk
          refine z_iload_n (pc := 15) C dX7_deal_15 rfl ?_
          refine z_iload_n (pc := 16) C dX7_deal_16 rfl ?_
          refine z_icmp_geT (pc := 17) C 81 dX7_deal_17 (by decide) (nI_le (by omega) (by omega)) ?_
          refine z_iload_n (pc := 81) C dX7_deal_81 rfl ?_
          exact z_iret (pc := 82) C ρ dX7_deal_82 (⟨_, rfl, by simp only [r_deal, if_pos hb_4, hkx, hkk], rfl, by simp only [f_deal, if_pos hb_4, hkx, hkk]; exact hm, hfr⟩)
        · have hk3 : 10 - n = k := by rw [k_deal, if_neg hc] at hkk; exact hkk
          refine z_iload_n (pc := 15) C dX7_deal_15 rfl ?_
          refine z_iload_n (pc := 16) C dX7_deal_16 rfl ?_
          refine z_icmp_geF (pc := 17) C 81 dX7_deal_17 (by decide) (nI_ge (by omega) (by omega)) ?_
          refine z_aload_n (pc := 20) C dX7_deal_20 rfl ?_
          refine gX7_9 (pc := 21) C dX7_deal_21 (ml_K hM) (ml_r0 hM) ?_
          refine z_iconstN (pc := 24) C 1 dX7_deal_24 ?_
          refine z_iald (pc := 25) C dX7_deal_25 (ml_a1 hM) (ml_n1 hM) (by omega) (by decide) ?_
          refine z_eqi (y := nI (n + k)) (by rw [hm]; exact deal_1 hok.1.2 k) ?_
          refine z_bipushN (pc := 26) C 10 (by decide) dX7_deal_26 ?_
          refine z_icmp_geT (pc := 28) C 81 dX7_deal_28 (by decide) (nI_le (by omega) (by omega)) ?_
          refine z_iload_n (pc := 81) C dX7_deal_81 rfl ?_
          exact z_iret (pc := 82) C ρ dX7_deal_82 (⟨_, rfl, by simp only [r_deal, if_pos hb_4, hkx, hkk], rfl, by simp only [f_deal, if_pos hb_4, hkx, hkk]; exact hm, hfr⟩)
      | succ r ih =>
        intro k im' y3 y4 y5 y6 hk hm hfr
        have hk2 : k < x0 ∧ n + k < 10 := by unfold k_deal at hk; split at hk <;> omega
        refine z_iload_n (pc := 15) C dX7_deal_15 rfl ?_
        refine z_iload_n (pc := 16) C dX7_deal_16 rfl ?_
        refine z_icmp_geF (pc := 17) C 81 dX7_deal_17 (by decide) (nI_ge (by omega) (by omega)) ?_
        refine z_aload_n (pc := 20) C dX7_deal_20 rfl ?_
        refine gX7_9 (pc := 21) C dX7_deal_21 (ml_K hM) (ml_r0 hM) ?_
        refine z_iconstN (pc := 24) C 1 dX7_deal_24 ?_
        refine z_iald (pc := 25) C dX7_deal_25 (ml_a1 hM) (ml_n1 hM) (by omega) (by decide) ?_
        refine z_eqi (y := nI (n + k)) (by rw [hm]; exact deal_1 hok.1.2 k) ?_
        refine z_bipushN (pc := 26) C 10 (by decide) dX7_deal_26 ?_
        refine z_icmp_geF (pc := 28) C 81 dX7_deal_28 (by decide) (nI_ge (by omega) (by omega)) ?_
        refine z_aload_n (pc := 31) C dX7_deal_31 rfl ?_
        refine kX7_146 (pc := 32) C dX7_deal_32 (m7_draw κ.2.1 E S (im') M hM) (ml_K hM) (by decide) (Nat.le_of_ble_eq_true rfl) (Nat.le_refl _) (Nat.le_refl _) (fun v_32 S_32 im_32 h_32 => ?_)
        have e_32 : (im') (M + 1) 0 = (s_deal f n k) 0 := by rw [hm]
        rw [e_32] at h_32
        obtain ⟨rfl, rfl, rfl⟩ := h_32
        refine z_bipushN (pc := 35) C 6 (by decide) dX7_deal_35 ?_
        refine z_irem (pc := 37) C dX7_deal_37 (by decide) ?_
        refine z_istore_n (pc := 38) C dX7_deal_38 (by decide) rfl ?_
        refine z_aload_n (pc := 39) C dX7_deal_39 rfl ?_
        refine kX7_146 (pc := 40) C dX7_deal_40 (m7_draw κ.2.1 E S (up2 (im') (M + 1) 0 (s_z ((s_deal f n k) 0))) M hM) (ml_K hM) (by decide) (Nat.le_of_ble_eq_true rfl) (Nat.le_refl _) (Nat.le_refl _) (fun v_40 S_40 im_40 h_40 => ?_)
        have e_40 : (up2 (im') (M + 1) 0 (s_z ((s_deal f n k) 0))) (M + 1) 0 = s_z ((s_deal f n k) 0) := by rw [up2_s, upd_s]
        rw [e_40] at h_40
        obtain ⟨rfl, rfl, rfl⟩ := h_40
        refine z_bipushN (pc := 43) C 60 (by decide) dX7_deal_43 ?_
        refine z_irem (pc := 45) C dX7_deal_45 (by decide) ?_
        refine z_istore (pc := 46) C dX7_deal_46 (by decide) rfl ?_
        refine z_aload_n (pc := 48) C dX7_deal_48 rfl ?_
        refine kX7_146 (pc := 49) C dX7_deal_49 (m7_draw κ.2.1 E S (up2 (up2 (im') (M + 1) 0 (s_z ((s_deal f n k) 0))) (M + 1) 0 (s_z (s_z ((s_deal f n k) 0)))) M hM) (ml_K hM) (by decide) (Nat.le_of_ble_eq_true rfl) (Nat.le_refl _) (Nat.le_refl _) (fun v_49 S_49 im_49 h_49 => ?_)
        have e_49 : (up2 (up2 (im') (M + 1) 0 (s_z ((s_deal f n k) 0))) (M + 1) 0 (s_z (s_z ((s_deal f n k) 0)))) (M + 1) 0 = s_z (s_z ((s_deal f n k) 0)) := by rw [up2_s, upd_s]
        rw [e_49] at h_49
        obtain ⟨rfl, rfl, rfl⟩ := h_49
        refine z_bipushN (pc := 52) C 80 (by decide) dX7_deal_52 ?_
        refine z_irem (pc := 54) C dX7_deal_54 (by decide) ?_
        refine z_istore (pc := 55) C dX7_deal_55 (by decide) rfl ?_
        refine z_aload_n (pc := 57) C dX7_deal_57 rfl ?_
        refine z_iload_n (pc := 58) C dX7_deal_58 rfl ?_
        refine z_iload (pc := 59) C dX7_deal_59 rfl ?_
        refine z_iload (pc := 61) C dX7_deal_61 rfl ?_
        refine z_aload_n (pc := 63) C dX7_deal_63 rfl ?_
        refine kX7_146 (pc := 64) C dX7_deal_64 (m7_draw κ.2.1 E S (up2 (up2 (up2 (im') (M + 1) 0 (s_z ((s_deal f n k) 0))) (M + 1) 0 (s_z (s_z ((s_deal f n k) 0)))) (M + 1) 0 (s_z (s_z (s_z ((s_deal f n k) 0))))) M hM) (ml_K hM) (by decide) (Nat.le_of_ble_eq_true rfl) (Nat.le_refl _) (Nat.le_refl _) (fun v_64 S_64 im_64 h_64 => ?_)
        have e_64 : (up2 (up2 (up2 (im') (M + 1) 0 (s_z ((s_deal f n k) 0))) (M + 1) 0 (s_z (s_z ((s_deal f n k) 0)))) (M + 1) 0 (s_z (s_z (s_z ((s_deal f n k) 0))))) (M + 1) 0 = s_z (s_z (s_z ((s_deal f n k) 0))) := by rw [up2_s, upd_s]
        rw [e_64] at h_64
        obtain ⟨rfl, rfl, rfl⟩ := h_64
        refine z_bipushN (pc := 67) C 40 (by decide) dX7_deal_67 ?_
        refine z_irem (pc := 69) C dX7_deal_69 (by decide) ?_
        refine kX7_102 (pc := 70) C dX7_deal_70 (m7_comes κ.2.1 E S (up2 (up2 (up2 (up2 (im') (M + 1) 0 (s_z ((s_deal f n k) 0))) (M + 1) 0 (s_z (s_z ((s_deal f n k) 0)))) (M + 1) 0 (s_z (s_z (s_z ((s_deal f n k) 0))))) (M + 1) 0 (s_z (s_z (s_z (s_z ((s_deal f n k) 0)))))) M hM (s_rem (s_z ((s_deal f n k) 0)) 6) (s_rem (s_z (s_z ((s_deal f n k) 0))) 60) (s_rem (s_z (s_z (s_z ((s_deal f n k) 0)))) 80) (s_rem (s_z (s_z (s_z (s_z ((s_deal f n k) 0))))) 40) (n + k) (by omega) (by rw [up2_s, upd_n _ _ (by decide), up2_s, upd_n _ _ (by decide), up2_s, upd_n _ _ (by decide), up2_s, upd_n _ _ (by decide), hm]; exact deal_1 hok.1.2 k)) (ml_K hM) (by decide) (Nat.le_of_ble_eq_true rfl) (Nat.le_refl _) (Nat.le_refl _) (fun v_70 S_70 im_70 h_70 => ?_)
        obtain ⟨rfl, rfl, rfl⟩ := h_70
        refine z_istore (pc := 73) C dX7_deal_73 (by decide) rfl ?_
        refine z_iincN (pc := 75) C 1 dX7_deal_75 rfl (by decide) rfl ?_
        refine z_goto (pc := 78) C 15 dX7_deal_78 (by decide) ?_
        refine ih (k + 1) _ _ _ _ _ (by omega) ?_ (fun a q1 q2 q3 q4 q5 q6 q7 q8 => by rw [up_n _ _ q1, up2_n _ _ _ q1, up2_n _ _ _ q1, up2_n _ _ _ q1, up2_n _ _ _ q1]; exact hfr a q1 q2 q3 q4 q5 q6 q7 q8)
        rw [up_s, up2_s, up2_s, up2_s, up2_s, hm, upd4]; rfl
    refine z_if_neT (pc := 7) C 13 dX7_deal_7 (by decide) (by decide) ?_
    refine z_iconstN (pc := 13) C 0 dX7_deal_13 ?_
    refine z_istore_n (pc := 14) C dX7_deal_14 (by decide) rfl ?_
    exact loop (k_deal n x0) 0 im _ _ _ _ (by omega) hf0 frP.rf
  · 
    refine z_if_neF (pc := 7) C 13 dX7_deal_7 (by decide) (by decide) ?_
    refine z_ldc (pc := 10) C dX7_deal_10 wk_X7_100 ?_
    exact z_iret (pc := 12) C ρ dX7_deal_12 (⟨_, rfl, by simp only [r_deal, if_neg hb_4], rfl, by simp only [f_deal, if_neg hb_4]; exact hf0, frP.rf⟩)
