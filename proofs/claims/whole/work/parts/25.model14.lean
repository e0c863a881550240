/-! the reference: pour, reads, ask, item, rest -/
def s_to (c o : Int32) : Int32 := if c = -1000000005 then o else s_within c (nI 0) (nI 99)
def s_pr (f c : Nat → Int32) : Nat → (Nat → Int32) × Int32
  | 0 => (f, nI 0)
  | k + 1 => (upd (s_pr f c k).1 (8 + 7 * k + 3) (s_to (c k) ((s_pr f c k).1 (8 + 7 * k + 3))), (s_pr f c k).2 + (if (s_pr f c k).1 (8 + 7 * k + 3) = s_to (c k) ((s_pr f c k).1 (8 + 7 * k + 3)) then nI 0 else nI 1))
def r_pourS (f c : Nat → Int32) (n : Nat) (x so sz : Int32) : Int32 := if isSh x then (if 0 ≤ so then (s_pr f c (min sz.toNatClampNeg n)).2 else -1000000011) else -1000000001
def f_pourS (f c : Nat → Int32) (n : Nat) (x so sz : Int32) : Nat → Int32 := if isSh x then (if 0 ≤ so then (s_pr f c (min sz.toNatClampNeg n)).1 else f) else f
set_option maxRecDepth 100000 in
set_option maxHeartbeats 4000000 in
theorem m7_pour (l : Launch) (E : Ex) (S : Sx) (im : Mem) (M : Nat) (hM : ML S M) (n n7 : Nat) (f : Nat → Int32) (hf0 : im (M + 1) = f) (hok : MOk f n n7) (hsh : ShOk M im) (x : Int32) : Mt l E yX7_pour cX7_pour 6 (some .int) 3 0 0 [.ref M, .int x] S im (pI (pP S im M (r_pourS f (fun j => im (M + 19) (24 * x.toNatClampNeg + j)) n x (im (M + 17) x.toNatClampNeg) (im (M + 18) x.toNatClampNeg)) (f_pourS f (fun j => im (M + 19) (24 * x.toNatClampNeg + j)) n x (im (M + 17) x.toNatClampNeg) (im (M + 18) x.toNatClampNeg)))) := by
  refine Mt.of (by decide +kernel) rfl rfl (Nat.le_of_ble_eq_true rfl) ?_
  intro κ hκ C ρ
  subst hκ
  show V E κ 6 0 0 0 [some (.ref M), some (.int x), none, none, none, none] [] S im
  refine z_iload_n (pc := 0) C dX7_pour_0 rfl ?_
  refine kX7_195 (pc := 1) C dX7_pour_1 (m7_isSheet κ.2.1 E S im x) (by decide) (Nat.le_of_ble_eq_true rfl) (Nat.le_refl _) (Nat.le_refl _) (fun v_1 S_1 im_1 h_1 => ?_)
  rcases h_1 with ⟨hb_1, rfl, rfl, rfl⟩ | ⟨hb_1, rfl, rfl, rfl⟩
  · 
    obtain ⟨x0, hx00, hx0, rfl⟩ := (rng (by decide) (by decide)).mp hb_1
    have hcx0 : (nI x0).toNatClampNeg = x0 := nI_clamp (by omega)
    have hn10 := hok.1.1
    obtain ⟨⟨z, hz, hze⟩, hso⟩ := hsh x0 (by omega)
    have hcz : (nI z).toNatClampNeg = z := nI_clamp (by omega)
    refine z_if_neT (pc := 4) C 10 dX7_pour_4 (by decide) (by decide) ?_
    refine z_aload_n (pc := 10) C dX7_pour_10 rfl ?_
    refine gX7_64 (pc := 11) C dX7_pour_11 (ml_K hM) (ml_r28 hM) ?_
    refine z_iload_n (pc := 14) C dX7_pour_14 rfl ?_
    refine z_iald (pc := 15) C dX7_pour_15 (ml_a17 hM) (ml_n17 hM) (by omega) (by decide) ?_
    refine z_if_ge (pc := 16) C 22 dX7_pour_16 (by decide) (fun c_16 => ?_) (fun c_16 => ?_)
    · 
      have loop : ∀ (r q : Nat) (im' : Mem) (cnt : Int32) (y4 y5 : Option Value), q + r = min z n → im' (M + 1) 1 = nI n → cnt = (s_pr f (fun j => im (M + 19) (24 * x0 + j)) q).2 → im' (M + 1) = (s_pr f (fun j => im (M + 19) (24 * x0 + j)) q).1 → frP M im im' → V E κ 6 0 0 26 [some (.ref M), some (.int (nI x0)), some (.int cnt), some (.int (nI q)), y4, y5] [] S im' := by
        intro r
        induction r with
        | zero =>
          intro q im' cnt y4 y5 hq hn1 hcnt hm hfr
          rw [Nat.add_zero] at hq
          refine z_iload_n (pc := 26) C dX7_pour_26 rfl ?_
          refine z_aload_n (pc := 27) C dX7_pour_27 rfl ?_
          refine gX7_67 (pc := 28) C dX7_pour_28 (ml_K hM) (ml_r29 hM) ?_
          refine z_iload_n (pc := 31) C dX7_pour_31 rfl ?_
          refine z_iald (pc := 32) C dX7_pour_32 (ml_a18 hM) (ml_n18 hM) (by omega) (by decide) ?_
          refine z_eqi (y := nI z) (by rw [hfr _ (by omega) (by omega) (by omega) (by omega) (by omega) (by omega) (by omega) (by omega)]; exact hze) ?_
          refine z_icmp_geN (pc := 33) C 119 dX7_pour_33 (by decide) (by omega) (by omega) (fun c_33 => ?_) (fun c_33 => ?_)
          · 
            refine z_iload_n (pc := 119) C dX7_pour_119 rfl ?_
            exact z_iret (pc := 120) C ρ dX7_pour_120 (⟨_, rfl, by rw [r_pourS, if_pos hb_1, hcx0, if_pos c_16, hze, hcz, hcnt, ← hq], rfl, by rw [f_pourS, if_pos hb_1, hcx0, if_pos c_16, hze, hcz, ← hq]; exact hm, hfr⟩)
          · 
            refine z_iload_n (pc := 36) C dX7_pour_36 rfl ?_
            refine z_aload_n (pc := 37) C dX7_pour_37 rfl ?_
            refine gX7_9 (pc := 38) C dX7_pour_38 (ml_K hM) (ml_r0 hM) ?_
            refine z_iconstN (pc := 41) C 1 dX7_pour_41 ?_
            refine z_iald (pc := 42) C dX7_pour_42 (ml_a1 hM) (ml_n1 hM) (by omega) (by decide) ?_
            refine z_eqi (y := nI n) (hn1) ?_
            refine z_icmp_geT (pc := 43) C 119 dX7_pour_43 (by decide) (nI_le (by omega) (by omega)) ?_
            refine z_iload_n (pc := 119) C dX7_pour_119 rfl ?_
            exact z_iret (pc := 120) C ρ dX7_pour_120 (⟨_, rfl, by rw [r_pourS, if_pos hb_1, hcx0, if_pos c_16, hze, hcz, hcnt, ← hq], rfl, by rw [f_pourS, if_pos hb_1, hcx0, if_pos c_16, hze, hcz, ← hq]; exact hm, hfr⟩)
        | succ r ih =>
          intro q im' cnt y4 y5 hq hn1 hcnt hm hfr
          refine z_iload_n (pc := 26) C dX7_pour_26 rfl ?_
          refine z_aload_n (pc := 27) C dX7_pour_27 rfl ?_
          refine gX7_67 (pc := 28) C dX7_pour_28 (ml_K hM) (ml_r29 hM) ?_
          refine z_iload_n (pc := 31) C dX7_pour_31 rfl ?_
          refine z_iald (pc := 32) C dX7_pour_32 (ml_a18 hM) (ml_n18 hM) (by omega) (by decide) ?_
          refine z_eqi (y := nI z) (by rw [hfr _ (by omega) (by omega) (by omega) (by omega) (by omega) (by omega) (by omega) (by omega)]; exact hze) ?_
          refine z_icmp_geF (pc := 33) C 119 dX7_pour_33 (by decide) (nI_ge (by omega) (by omega)) ?_
          refine z_iload_n (pc := 36) C dX7_pour_36 rfl ?_
          refine z_aload_n (pc := 37) C dX7_pour_37 rfl ?_
          refine gX7_9 (pc := 38) C dX7_pour_38 (ml_K hM) (ml_r0 hM) ?_
          refine z_iconstN (pc := 41) C 1 dX7_pour_41 ?_
          refine z_iald (pc := 42) C dX7_pour_42 (ml_a1 hM) (ml_n1 hM) (by omega) (by decide) ?_
          refine z_eqi (y := nI n) (hn1) ?_
          refine z_icmp_geF (pc := 43) C 119 dX7_pour_43 (by decide) (nI_ge (by omega) (by omega)) ?_
          refine z_aload_n (pc := 46) C dX7_pour_46 rfl ?_
          refine gX7_70 (pc := 47) C dX7_pour_47 (ml_K hM) (ml_r30 hM) ?_
          refine z_bipushN (pc := 50) C 24 (by decide) dX7_pour_50 ?_
          refine z_iload_n (pc := 52) C dX7_pour_52 rfl ?_
          refine z_imulN (pc := 53) C dX7_pour_53 ?_
          refine z_iload_n (pc := 54) C dX7_pour_54 rfl ?_
          refine z_iaddN (pc := 55) C dX7_pour_55 ?_
          refine z_iald (pc := 56) C dX7_pour_56 (ml_a19 hM) (ml_n19 hM) (by omega) (by decide) ?_
          refine z_eqi (y := im (M + 19) (24 * x0 + q)) (by rw [hfr _ (by omega) (by omega) (by omega) (by omega) (by omega) (by omega) (by omega) (by omega)]) ?_
          refine z_istore (pc := 57) C dX7_pour_57 (by decide) rfl ?_
          refine z_iload (pc := 59) C dX7_pour_59 rfl ?_
          refine z_ldc (pc := 61) C dX7_pour_61 wk_X7_91 ?_
          have j_83 : ∀ x83 : Int32, x83 = (s_to (im (M + 19) (24 * x0 + q)) (im' (M + 1) (8 + 7 * q + 3))) → V E κ 6 0 0 83 [some (.ref M), some (.int (nI x0)), some (.int cnt), some (.int (nI q)), some (.int (im (M + 19) (24 * x0 + q))), y5] [.int x83] S im' := by
            intro x83 ex83
            refine z_istore (pc := 83) C dX7_pour_83 (by decide) rfl ?_
            refine z_iload_n (pc := 85) C dX7_pour_85 rfl ?_
            refine z_aload_n (pc := 86) C dX7_pour_86 rfl ?_
            refine z_bipushN (pc := 87) C 8 (by decide) dX7_pour_87 ?_
            refine z_bipushN (pc := 89) C 7 (by decide) dX7_pour_89 ?_
            refine z_iload_n (pc := 91) C dX7_pour_91 rfl ?_
            refine z_imulN (pc := 92) C dX7_pour_92 ?_
            refine z_iaddN (pc := 93) C dX7_pour_93 ?_
            refine z_iconstN (pc := 94) C 3 dX7_pour_94 ?_
            refine z_iaddN (pc := 95) C dX7_pour_95 ?_
            refine z_iload (pc := 96) C dX7_pour_96 rfl ?_
            refine kX7_139 (pc := 98) C dX7_pour_98 (m7_becomes κ.2.1 E S im' M hM (8 + 7 * q + 3) (by omega) x83) (ml_K hM) (by decide) (Nat.le_of_ble_eq_true rfl) (Nat.le_refl _) (Nat.le_refl _) (fun v_98 S_98 im_98 h_98 => ?_)
            obtain ⟨rfl, rfl, rfl⟩ := h_98
            refine z_iload (pc := 101) C dX7_pour_101 rfl ?_
            have j_111 : ∀ x111 : Int32, x111 = (if im' (M + 1) (8 + 7 * q + 3) = x83 then nI 0 else nI 1) → V E κ 6 0 0 111 [some (.ref M), some (.int (nI x0)), some (.int cnt), some (.int (nI q)), some (.int (im (M + 19) (24 * x0 + q))), some (.int x83)] [.int x111, .int cnt] S (up2 im' (M + 1) (8 + 7 * q + 3) x83) := by
              intro x111 ex111
              refine z_iadd (pc := 111) C dX7_pour_111 ?_
              refine z_istore_n (pc := 112) C dX7_pour_112 (by decide) rfl ?_
              refine z_iincN (pc := 113) C 1 dX7_pour_113 rfl (by decide) rfl ?_
              refine z_goto (pc := 116) C 26 dX7_pour_116 (by decide) ?_
              refine ih (q + 1) _ _ _ _ (by omega) (by rw [up2_s, upd_n _ _ (by omega)]; exact hn1) (by rw [s_pr, ex111, ex83, hcnt, hm]) ?_ ?_
              · rw [up2_s, s_pr, ex83, hm]
              · exact hfr.tr (fun a q1 _ _ _ _ _ _ _ => up2_n _ _ _ q1)
            refine z_icmp_ne (pc := 103) C 110 dX7_pour_103 (by decide) (fun c_103 => ?_) (fun c_103 => ?_)
            · 
              refine z_iconstN (pc := 110) C 1 dX7_pour_110 ?_
              exact j_111 _ (by simp only [if_neg c_103])
            · 
              refine z_iconstN (pc := 106) C 0 dX7_pour_106 ?_
              refine z_goto (pc := 107) C 111 dX7_pour_107 (by decide) ?_
              exact j_111 _ (by simp only [if_pos c_103])
          refine z_icmp_ne (pc := 63) C 75 dX7_pour_63 (by decide) (fun c_63 => ?_) (fun c_63 => ?_)
          · 
            refine z_iload (pc := 75) C dX7_pour_75 rfl ?_
            refine z_iconstN (pc := 77) C 0 dX7_pour_77 ?_
            refine z_bipushN (pc := 78) C 99 (by decide) dX7_pour_78 ?_
            refine kX7_117 (pc := 80) C dX7_pour_80 (m7_within κ.2.1 E S im' (im (M + 19) (24 * x0 + q)) (nI 0) (nI 99)) (by decide) (Nat.le_of_ble_eq_true rfl) (Nat.le_refl _) (Nat.le_refl _) (fun v_80 S_80 im_80 h_80 => ?_)
            obtain ⟨rfl, rfl, rfl⟩ := h_80
            exact j_83 _ (by simp only [s_to, if_neg c_63])
          · 
            refine z_aload_n (pc := 66) C dX7_pour_66 rfl ?_
            refine z_iload_n (pc := 67) C dX7_pour_67 rfl ?_
            refine z_iconstN (pc := 68) C 3 dX7_pour_68 ?_
            refine kX7_106 (pc := 69) C dX7_pour_69 (m7_of κ.2.1 E S im' M hM q 3 (by omega) (by decide)) (ml_K hM) (by decide) (Nat.le_of_ble_eq_true rfl) (Nat.le_refl _) (Nat.le_refl _) (fun v_69 S_69 im_69 h_69 => ?_)
            obtain ⟨rfl, rfl, rfl⟩ := h_69
            refine z_goto (pc := 72) C 83 dX7_pour_72 (by decide) ?_
            exact j_83 _ (by simp only [s_to, if_pos c_63])
      refine z_iconstN (pc := 22) C 0 dX7_pour_22 ?_
      refine z_istore_n (pc := 23) C dX7_pour_23 (by decide) rfl ?_
      refine z_iconstN (pc := 24) C 0 dX7_pour_24 ?_
      refine z_istore_n (pc := 25) C dX7_pour_25 (by decide) rfl ?_
      exact loop (min z n) 0 im _ _ _ (by omega) (by rw [hf0]; exact hok.1.2) rfl hf0 frP.rf
    · 
      refine z_ldc (pc := 19) C dX7_pour_19 wk_X7_198 ?_
      exact z_iret (pc := 21) C ρ dX7_pour_21 (⟨_, rfl, by simp only [r_pourS, hcx0, if_pos hb_1, if_neg c_16], rfl, by simp only [f_pourS, hcx0, if_pos hb_1, if_neg c_16]; exact hf0, frP.rf⟩)
  · 
    refine z_if_neF (pc := 4) C 10 dX7_pour_4 (by decide) (by decide) ?_
    refine z_ldc (pc := 7) C dX7_pour_7 wk_X7_100 ?_
    exact z_iret (pc := 9) C ρ dX7_pour_9 (⟨_, rfl, by simp only [r_pourS, if_neg hb_1], rfl, by simp only [f_pourS, if_neg hb_1]; exact hf0, frP.rf⟩)
def s_rd (f c : Nat → Int32) (n : Nat) : Nat → Nat → Int32
  | 0, _ => -1000000005
  | r + 1, k => if c k = -1000000005 then s_rd f c n r (k + 1) else if k < n ∧ c k = nI (ordA f n k) then s_rd f c n r (k + 1) else nI k
def r_reads (f c : Nat → Int32) (n : Nat) (x so sz : Int32) : Int32 := if isSh x then (if 0 ≤ so then s_rd f c n sz.toNatClampNeg 0 else -1000000011) else -1000000001
set_option maxRecDepth 100000 in
set_option maxHeartbeats 4000000 in
theorem m7_reads (l : Launch) (E : Ex) (S : Sx) (im : Mem) (M : Nat) (hM : ML S M) (n n7 : Nat) (f : Nat → Int32) (hf0 : im (M + 1) = f) (hok : MOk f n n7) (hsh : ShOk M im) (x : Int32) : Mt l E yX7_reads cX7_reads 4 (some .int) 5 0 0 [.ref M, .int x] S im (pI (pP S im M (r_reads f (fun j => im (M + 19) (24 * x.toNatClampNeg + j)) n x (im (M + 17) x.toNatClampNeg) (im (M + 18) x.toNatClampNeg)) (f))) := by
  refine Mt.of (by decide +kernel) rfl rfl (Nat.le_of_ble_eq_true rfl) ?_
  intro κ hκ C ρ
  subst hκ
  show V E κ 4 0 0 0 [some (.ref M), some (.int x), none, none] [] S im
  refine z_iload_n (pc := 0) C dX7_reads_0 rfl ?_
  refine kX7_195 (pc := 1) C dX7_reads_1 (m7_isSheet κ.2.1 E S im x) (by decide) (Nat.le_of_ble_eq_true rfl) (Nat.le_refl _) (Nat.le_refl _) (fun v_1 S_1 im_1 h_1 => ?_)
  rcases h_1 with ⟨hb_1, rfl, rfl, rfl⟩ | ⟨hb_1, rfl, rfl, rfl⟩
  · 
    obtain ⟨x0, hx00, hx0, rfl⟩ := (rng (by decide) (by decide)).mp hb_1
    have hcx0 : (nI x0).toNatClampNeg = x0 := nI_clamp (by omega)
    have hn10 := hok.1.1
    obtain ⟨⟨z, hz, hze⟩, hso⟩ := hsh x0 (by omega)
    have hcz : (nI z).toNatClampNeg = z := nI_clamp (by omega)
    refine z_if_neT (pc := 4) C 10 dX7_reads_4 (by decide) (by decide) ?_
    refine z_aload_n (pc := 10) C dX7_reads_10 rfl ?_
    refine gX7_64 (pc := 11) C dX7_reads_11 (ml_K hM) (ml_r28 hM) ?_
    refine z_iload_n (pc := 14) C dX7_reads_14 rfl ?_
    refine z_iald (pc := 15) C dX7_reads_15 (ml_a17 hM) (ml_n17 hM) (by omega) (by decide) ?_
    refine z_if_ge (pc := 16) C 22 dX7_reads_16 (by decide) (fun c_16 => ?_) (fun c_16 => ?_)
    · 
      refine z_aload_n (pc := 22) C dX7_reads_22 rfl ?_
      refine kX7_153 (pc := 23) C dX7_reads_23 (m7_findOrder κ.2.1 E S im M hM n n7 (by rw [hf0]; exact hok)) (ml_K hM) (by decide) (Nat.le_of_ble_eq_true rfl) (Nat.le_refl _) (Nat.le_refl _) (fun S_23 im_23 h_23 => ?_)
      obtain ⟨rfl, hrow, hfo⟩ := h_23
      rw [hf0] at hrow
      have loop : ∀ (r q : Nat) (y3 : Option Value), q + r = z → s_rd f (fun j => im (M + 19) (24 * x0 + j)) n r q = s_rd f (fun j => im (M + 19) (24 * x0 + j)) n z 0 → V E κ 4 0 0 28 [some (.ref M), some (.int (nI x0)), some (.int (nI q)), y3] [] S im_23 := by
        intro r
        induction r with
        | zero =>
          intro q y3 hq hans
          refine z_iload_n (pc := 28) C dX7_reads_28 rfl ?_
          refine z_aload_n (pc := 29) C dX7_reads_29 rfl ?_
          refine gX7_67 (pc := 30) C dX7_reads_30 (ml_K hM) (ml_r29 hM) ?_
          refine z_iload_n (pc := 33) C dX7_reads_33 rfl ?_
          refine z_iald (pc := 34) C dX7_reads_34 (ml_a18 hM) (ml_n18 hM) (by omega) (by decide) ?_
          refine z_eqi (y := nI z) (by rw [hfo _ (by omega) (by omega)]; exact hze) ?_
          refine z_icmp_geT (pc := 35) C 82 dX7_reads_35 (by decide) (nI_le (by omega) (by omega)) ?_
          refine z_ldc (pc := 82) C dX7_reads_82 wk_X7_91 ?_
          exact z_iret (pc := 84) C ρ dX7_reads_84 (⟨_, rfl, by rw [r_reads, if_pos hb_1, hcx0, if_pos c_16, hze, hcz, ← hans, s_rd], rfl, by rw [hfo _ (by omega) (by omega)]; exact hf0, hfo.P⟩)
        | succ r ih =>
          intro q y3 hq hans
          refine z_iload_n (pc := 28) C dX7_reads_28 rfl ?_
          refine z_aload_n (pc := 29) C dX7_reads_29 rfl ?_
          refine gX7_67 (pc := 30) C dX7_reads_30 (ml_K hM) (ml_r29 hM) ?_
          refine z_iload_n (pc := 33) C dX7_reads_33 rfl ?_
          refine z_iald (pc := 34) C dX7_reads_34 (ml_a18 hM) (ml_n18 hM) (by omega) (by decide) ?_
          refine z_eqi (y := nI z) (by rw [hfo _ (by omega) (by omega)]; exact hze) ?_
          refine z_icmp_geF (pc := 35) C 82 dX7_reads_35 (by decide) (nI_ge (by omega) (by omega)) ?_
          refine z_aload_n (pc := 38) C dX7_reads_38 rfl ?_
          refine gX7_70 (pc := 39) C dX7_reads_39 (ml_K hM) (ml_r30 hM) ?_
          refine z_bipushN (pc := 42) C 24 (by decide) dX7_reads_42 ?_
          refine z_iload_n (pc := 44) C dX7_reads_44 rfl ?_
          refine z_imulN (pc := 45) C dX7_reads_45 ?_
          refine z_iload_n (pc := 46) C dX7_reads_46 rfl ?_
          refine z_iaddN (pc := 47) C dX7_reads_47 ?_
          refine z_iald (pc := 48) C dX7_reads_48 (ml_a19 hM) (ml_n19 hM) (by omega) (by decide) ?_
          refine z_eqi (y := im (M + 19) (24 * x0 + q)) (by rw [hfo _ (by omega) (by omega)]) ?_
          refine z_istore_n (pc := 49) C dX7_reads_49 (by decide) rfl ?_
          refine z_iload_n (pc := 50) C dX7_reads_50 rfl ?_
          refine z_ldc (pc := 51) C dX7_reads_51 wk_X7_91 ?_
          refine z_icmp_eq (pc := 53) C 76 dX7_reads_53 (by decide) (fun c_53 => ?_) (fun c_53 => ?_)
          · 
            refine z_iincN (pc := 76) C 1 dX7_reads_76 rfl (by decide) rfl ?_
            refine z_goto (pc := 79) C 28 dX7_reads_79 (by decide) ?_
            first | exact ih (q + 1) _ (by omega) (by rw [← hans, s_rd, if_pos c_53]) | exact ih (q + 1) _ (by omega) (by rw [← hans, s_rd, if_neg c_53, if_pos ⟨hqn, c_71⟩])
          · 
            refine z_aload_n (pc := 56) C dX7_reads_56 rfl ?_
            refine z_iload_n (pc := 57) C dX7_reads_57 rfl ?_
            refine kX7_121 (pc := 58) C dX7_reads_58 (m7_isLamp κ.2.1 E S im_23 M hM (nI q) n hok.1.1 (by rw [hfo _ (by omega) (by omega), hf0]; exact hok.1.2)) (ml_K hM) (by decide) (Nat.le_of_ble_eq_true rfl) (Nat.le_refl _) (Nat.le_refl _) (fun v_58 S_58 im_58 h_58 => ?_)
            rcases h_58 with ⟨hb_58, rfl, rfl, rfl⟩ | ⟨hb_58, rfl, rfl, rfl⟩
            · 
              have hqn : q < n := by obtain ⟨j, hj, e⟩ := hb_58; rw [nI_eq (by omega) (by omega)] at e; omega
              refine z_if_eqF (pc := 61) C 74 dX7_reads_61 (by decide) (by decide) ?_
              refine z_iload_n (pc := 64) C dX7_reads_64 rfl ?_
              refine z_aload_n (pc := 65) C dX7_reads_65 rfl ?_
              refine gX7_23 (pc := 66) C dX7_reads_66 (ml_K hM) (ml_r5 hM) ?_
              refine z_iload_n (pc := 69) C dX7_reads_69 rfl ?_
              refine z_iald (pc := 70) C dX7_reads_70 (ml_a4 hM) (ml_n4 hM) (by omega) (by decide) ?_
              refine z_eqi (y := nI (ordA f n q)) (hrow _ hqn) ?_
              refine z_icmp_eq (pc := 71) C 76 dX7_reads_71 (by decide) (fun c_71 => ?_) (fun c_71 => ?_)
              · 
                refine z_iincN (pc := 76) C 1 dX7_reads_76 rfl (by decide) rfl ?_
                refine z_goto (pc := 79) C 28 dX7_reads_79 (by decide) ?_
                first | exact ih (q + 1) _ (by omega) (by rw [← hans, s_rd, if_pos c_53]) | exact ih (q + 1) _ (by omega) (by rw [← hans, s_rd, if_neg c_53, if_pos ⟨hqn, c_71⟩])
              · 
                refine z_iload_n (pc := 74) C dX7_reads_74 rfl ?_
                exact z_iret (pc := 75) C ρ dX7_reads_75 (⟨_, rfl, by rw [r_reads, if_pos hb_1, hcx0, if_pos c_16, hze, hcz, ← hans, s_rd]; rw [if_neg c_53, if_neg (fun h => c_71 h.2)], rfl, by rw [hfo _ (by omega) (by omega)]; exact hf0, hfo.P⟩)
            · 
              refine z_if_eqT (pc := 61) C 74 dX7_reads_61 (by decide) (by decide) ?_
              refine z_iload_n (pc := 74) C dX7_reads_74 rfl ?_
              exact z_iret (pc := 75) C ρ dX7_reads_75 (⟨_, rfl, by rw [r_reads, if_pos hb_1, hcx0, if_pos c_16, hze, hcz, ← hans, s_rd]; rw [if_neg c_53, if_neg (fun h => hb_58 ⟨q, h.1, rfl⟩)], rfl, by rw [hfo _ (by omega) (by omega)]; exact hf0, hfo.P⟩)
      refine z_iconstN (pc := 26) C 0 dX7_reads_26 ?_
      refine z_istore_n (pc := 27) C dX7_reads_27 (by decide) rfl ?_
      exact loop z 0 _ (by omega) rfl
    · 
      refine z_ldc (pc := 19) C dX7_reads_19 wk_X7_198 ?_
      exact z_iret (pc := 21) C ρ dX7_reads_21 (⟨_, rfl, by simp only [r_reads, hcx0, if_pos hb_1, if_neg c_16], rfl, hf0, frP.rf⟩)
  · 
    refine z_if_neF (pc := 4) C 10 dX7_reads_4 (by decide) (by decide) ?_
    refine z_ldc (pc := 7) C dX7_reads_7 wk_X7_100 ?_
    exact z_iret (pc := 9) C ρ dX7_reads_9 (⟨_, rfl, by simp only [r_reads, if_neg hb_1], rfl, hf0, frP.rf⟩)
/-- what holds of the slots -/
def SlOk (M : Nat) (im : Mem) : Prop := ∀ s, s < 5 → im (M + 20) s = nI 2 → ∃ z, z ≤ 24 ∧ im (M + 21) s = nI z

def r_ask (x k th a b : Int32) : Int32 := if isSl x then (if nI 0 ≤ k ∧ k ≤ nI 5 then (if th = 0 then -1000000011 else if th = nI 1 then (if k = 0 ∨ a = k ∨ (k = nI 1 ∧ a = nI 3) ∨ (k = nI 2 ∧ a = nI 4) then b else -1000000012) else -1000000012) else -1000000001) else -1000000001
def r_item (x p th a : Int32) (c : Nat → Int32) : Int32 := if isSl x then (if th = 0 then -1000000011 else if th = nI 2 then (if nI 0 ≤ p ∧ p ≤ a - nI 1 then (if c p.toNatClampNeg = -1000000005 then -1000000012 else c p.toNatClampNeg) else -1000000013) else -1000000012) else -1000000001
def r_rest (x w th a : Int32) : Int32 := if isSl x then (if th = 0 then -1000000011 else if th = nI 3 then (if w = 0 then -1000000002 else if w = -1 then nI 0 else a - a / w * w) else -1000000012) else -1000000001
set_option maxRecDepth 100000 in
set_option maxHeartbeats 4000000 in
theorem m7_ask (l : Launch) (E : Ex) (S : Sx) (im : Mem) (M : Nat) (hM : ML S M) (x k : Int32) : Mt l E yX7_ask cX7_ask 3 (some .int) 3 0 0 [.ref M, .int x, .int k] S im (pI (pE S im (r_ask x k (im (M + 20) x.toNatClampNeg) (im (M + 21) x.toNatClampNeg) (im (M + 22) x.toNatClampNeg)))) := by
  refine Mt.of (by decide +kernel) rfl rfl (Nat.le_of_ble_eq_true rfl) ?_
  intro κ hκ C ρ
  subst hκ
  show V E κ 3 0 0 0 [some (.ref M), some (.int x), some (.int k)] [] S im
  refine z_iload_n (pc := 0) C dX7_ask_0 rfl ?_
  refine kX7_273 (pc := 1) C dX7_ask_1 (m7_isSlot κ.2.1 E S im x) (by decide) (Nat.le_of_ble_eq_true rfl) (Nat.le_refl _) (Nat.le_refl _) (fun v_1 S_1 im_1 h_1 => ?_)
  rcases h_1 with ⟨hb_1, rfl, rfl, rfl⟩ | ⟨hb_1, rfl, rfl, rfl⟩
  · 
    obtain ⟨x0, hx00, hx0, rfl⟩ := (rng (by decide) (by decide)).mp hb_1
    have hcx0 : (nI x0).toNatClampNeg = x0 := nI_clamp (by omega)
    refine z_if_eqF (pc := 4) C 16 dX7_ask_4 (by decide) (by decide) ?_
    refine z_iload_n (pc := 7) C dX7_ask_7 rfl ?_
    refine z_iconstN (pc := 8) C 0 dX7_ask_8 ?_
    refine z_iconstN (pc := 9) C 5 dX7_ask_9 ?_
    refine kX7_92 (pc := 10) C dX7_ask_10 (m7_in κ.2.1 E S im (k) (nI 0) (nI 5)) (by decide) (Nat.le_of_ble_eq_true rfl) (Nat.le_refl _) (Nat.le_refl _) (fun v_10 S_10 im_10 h_10 => ?_)
    rcases h_10 with ⟨hb_10, rfl, rfl, rfl⟩ | ⟨hb_10, rfl, rfl, rfl⟩
    · 
      refine z_if_neT (pc := 13) C 19 dX7_ask_13 (by decide) (by decide) ?_
      refine z_aload_n (pc := 19) C dX7_ask_19 rfl ?_
      refine gX7_73 (pc := 20) C dX7_ask_20 (ml_K hM) (ml_r31 hM) ?_
      refine z_iload_n (pc := 23) C dX7_ask_23 rfl ?_
      refine z_iald (pc := 24) C dX7_ask_24 (ml_a20 hM) (ml_n20 hM) (by omega) (by decide) ?_
      refine z_if_ne (pc := 25) C 31 dX7_ask_25 (by decide) (fun c_25 => ?_) (fun c_25 => ?_)
      · 
        refine z_aload_n (pc := 31) C dX7_ask_31 rfl ?_
        refine gX7_73 (pc := 32) C dX7_ask_32 (ml_K hM) (ml_r31 hM) ?_
        refine z_iload_n (pc := 35) C dX7_ask_35 rfl ?_
        refine z_iald (pc := 36) C dX7_ask_36 (ml_a20 hM) (ml_n20 hM) (by omega) (by decide) ?_
        refine z_iconstN (pc := 37) C 1 dX7_ask_37 ?_
        refine z_icmp_ne (pc := 38) C 63 dX7_ask_38 (by decide) (fun c_38 => ?_) (fun c_38 => ?_)
        · 
          refine z_ldc (pc := 63) C dX7_ask_63 wk_X7_138 ?_
          exact z_iret (pc := 65) C ρ dX7_ask_65 (⟨_, rfl, by simp only [r_ask, hcx0, if_pos hb_1, if_pos hb_10, if_neg c_25, if_neg c_38], rfl, rfl⟩)
        · 
          refine z_aload_n (pc := 41) C dX7_ask_41 rfl ?_
          refine gX7_76 (pc := 42) C dX7_ask_42 (ml_K hM) (ml_r32 hM) ?_
          refine z_iload_n (pc := 45) C dX7_ask_45 rfl ?_
          refine z_iald (pc := 46) C dX7_ask_46 (ml_a21 hM) (ml_n21 hM) (by omega) (by decide) ?_
          refine z_iload_n (pc := 47) C dX7_ask_47 rfl ?_
          refine kX7_134 (pc := 48) C dX7_ask_48 (m7_isUnder κ.2.1 E S im (im (M + 21) x0) k) (by decide) (Nat.le_of_ble_eq_true rfl) (Nat.le_refl _) (Nat.le_refl _) (fun v_48 S_48 im_48 h_48 => ?_)
          rcases h_48 with ⟨hb_48, rfl, rfl, rfl⟩ | ⟨hb_48, rfl, rfl, rfl⟩
          · 
            unfold s_under at hb_48
            refine z_if_eqF (pc := 51) C 63 dX7_ask_51 (by decide) (by decide) ?_
            refine z_aload_n (pc := 54) C dX7_ask_54 rfl ?_
            refine gX7_79 (pc := 55) C dX7_ask_55 (ml_K hM) (ml_r33 hM) ?_
            refine z_iload_n (pc := 58) C dX7_ask_58 rfl ?_
            refine z_iald (pc := 59) C dX7_ask_59 (ml_a22 hM) (ml_n22 hM) (by omega) (by decide) ?_
            refine z_goto (pc := 60) C 65 dX7_ask_60 (by decide) ?_
            exact z_iret (pc := 65) C ρ dX7_ask_65 (⟨_, rfl, by simp only [r_ask, hcx0, if_pos hb_1, if_pos hb_10, if_neg c_25, if_pos c_38, if_pos hb_48], rfl, rfl⟩)
          · 
            unfold s_under at hb_48
            refine z_if_eqT (pc := 51) C 63 dX7_ask_51 (by decide) (by decide) ?_
            refine z_ldc (pc := 63) C dX7_ask_63 wk_X7_138 ?_
            exact z_iret (pc := 65) C ρ dX7_ask_65 (⟨_, rfl, by simp only [r_ask, hcx0, if_pos hb_1, if_pos hb_10, if_neg c_25, if_pos c_38, if_neg hb_48], rfl, rfl⟩)
      · 
        refine z_ldc (pc := 28) C dX7_ask_28 wk_X7_198 ?_
        exact z_iret (pc := 30) C ρ dX7_ask_30 (⟨_, rfl, by simp only [r_ask, hcx0, if_pos hb_1, if_pos hb_10, if_pos c_25], rfl, rfl⟩)
    · 
      refine z_if_neF (pc := 13) C 19 dX7_ask_13 (by decide) (by decide) ?_
      refine z_ldc (pc := 16) C dX7_ask_16 wk_X7_100 ?_
      exact z_iret (pc := 18) C ρ dX7_ask_18 (⟨_, rfl, by simp only [r_ask, if_pos hb_1, if_neg hb_10], rfl, rfl⟩)
  · 
    refine z_if_eqT (pc := 4) C 16 dX7_ask_4 (by decide) (by decide) ?_
    refine z_ldc (pc := 16) C dX7_ask_16 wk_X7_100 ?_
    exact z_iret (pc := 18) C ρ dX7_ask_18 (⟨_, rfl, by simp only [r_ask, if_neg hb_1], rfl, rfl⟩)
set_option maxRecDepth 100000 in
set_option maxHeartbeats 4000000 in
theorem m7_item (l : Launch) (E : Ex) (S : Sx) (im : Mem) (M : Nat) (hM : ML S M) (hsl : SlOk M im) (x p : Int32) : Mt l E yX7_item cX7_item 4 (some .int) 3 0 0 [.ref M, .int x, .int p] S im (pI (pE S im (r_item x p (im (M + 20) x.toNatClampNeg) (im (M + 21) x.toNatClampNeg) (fun j => im (M + 23) (24 * x.toNatClampNeg + j))))) := by
  refine Mt.of (by decide +kernel) rfl rfl (Nat.le_of_ble_eq_true rfl) ?_
  intro κ hκ C ρ
  subst hκ
  show V E κ 4 0 0 0 [some (.ref M), some (.int x), some (.int p), none] [] S im
  refine z_iload_n (pc := 0) C dX7_item_0 rfl ?_
  refine kX7_273 (pc := 1) C dX7_item_1 (m7_isSlot κ.2.1 E S im x) (by decide) (Nat.le_of_ble_eq_true rfl) (Nat.le_refl _) (Nat.le_refl _) (fun v_1 S_1 im_1 h_1 => ?_)
  rcases h_1 with ⟨hb_1, rfl, rfl, rfl⟩ | ⟨hb_1, rfl, rfl, rfl⟩
  · 
    obtain ⟨x0, hx00, hx0, rfl⟩ := (rng (by decide) (by decide)).mp hb_1
    have hcx0 : (nI x0).toNatClampNeg = x0 := nI_clamp (by omega)
    refine z_if_neT (pc := 4) C 10 dX7_item_4 (by decide) (by decide) ?_
    refine z_aload_n (pc := 10) C dX7_item_10 rfl ?_
    refine gX7_73 (pc := 11) C dX7_item_11 (ml_K hM) (ml_r31 hM) ?_
    refine z_iload_n (pc := 14) C dX7_item_14 rfl ?_
    refine z_iald (pc := 15) C dX7_item_15 (ml_a20 hM) (ml_n20 hM) (by omega) (by decide) ?_
    refine z_if_ne (pc := 16) C 22 dX7_item_16 (by decide) (fun c_16 => ?_) (fun c_16 => ?_)
    · 
      refine z_aload_n (pc := 22) C dX7_item_22 rfl ?_
      refine gX7_73 (pc := 23) C dX7_item_23 (ml_K hM) (ml_r31 hM) ?_
      refine z_iload_n (pc := 26) C dX7_item_26 rfl ?_
      refine z_iald (pc := 27) C dX7_item_27 (ml_a20 hM) (ml_n20 hM) (by omega) (by decide) ?_
      refine z_iconstN (pc := 28) C 2 dX7_item_28 ?_
      refine z_icmp_eq (pc := 29) C 35 dX7_item_29 (by decide) (fun c_29 => ?_) (fun c_29 => ?_)
      · 
        obtain ⟨z, hz, hze⟩ := hsl x0 (by omega) c_29
        refine z_iload_n (pc := 35) C dX7_item_35 rfl ?_
        refine z_iconstN (pc := 36) C 0 dX7_item_36 ?_
        refine z_aload_n (pc := 37) C dX7_item_37 rfl ?_
        refine gX7_76 (pc := 38) C dX7_item_38 (ml_K hM) (ml_r32 hM) ?_
        refine z_iload_n (pc := 41) C dX7_item_41 rfl ?_
        refine z_iald (pc := 42) C dX7_item_42 (ml_a21 hM) (ml_n21 hM) (by omega) (by decide) ?_
        refine z_eqi (y := nI z) (hze) ?_
        refine z_iconstN (pc := 43) C 1 dX7_item_43 ?_
        refine z_isub (pc := 44) C dX7_item_44 ?_
        refine kX7_92 (pc := 45) C dX7_item_45 (m7_in κ.2.1 E S im p (nI 0) (nI z - nI 1)) (by decide) (Nat.le_of_ble_eq_true rfl) (Nat.le_refl _) (Nat.le_refl _) (fun v_45 S_45 im_45 h_45 => ?_)
        rcases h_45 with ⟨hb_45, rfl, rfl, rfl⟩ | ⟨hb_45, rfl, rfl, rfl⟩
        · 
          obtain ⟨p0, hp0, rfl⟩ := (in_sz (by omega)).mp hb_45
          have hcp0 : (nI p0).toNatClampNeg = p0 := nI_clamp (by omega)
          refine z_if_neT (pc := 48) C 55 dX7_item_48 (by decide) (by decide) ?_
          refine z_aload_n (pc := 55) C dX7_item_55 rfl ?_
          refine gX7_82 (pc := 56) C dX7_item_56 (ml_K hM) (ml_r34 hM) ?_
          refine z_bipushN (pc := 59) C 24 (by decide) dX7_item_59 ?_
          refine z_iload_n (pc := 61) C dX7_item_61 rfl ?_
          refine z_imulN (pc := 62) C dX7_item_62 ?_
          refine z_iload_n (pc := 63) C dX7_item_63 rfl ?_
          refine z_iaddN (pc := 64) C dX7_item_64 ?_
          refine z_iald (pc := 65) C dX7_item_65 (ml_a23 hM) (ml_n23 hM) (by omega) (by decide) ?_
          refine z_istore_n (pc := 66) C dX7_item_66 (by decide) rfl ?_
          refine z_iload_n (pc := 67) C dX7_item_67 rfl ?_
          refine z_ldc (pc := 68) C dX7_item_68 wk_X7_91 ?_
          refine z_icmp_ne (pc := 70) C 78 dX7_item_70 (by decide) (fun c_70 => ?_) (fun c_70 => ?_)
          · 
            refine z_iload_n (pc := 78) C dX7_item_78 rfl ?_
            exact z_iret (pc := 79) C ρ dX7_item_79 (⟨_, rfl, by simp only [r_item, hcx0, hcp0, hze, if_pos hb_1, if_neg c_16, if_pos c_29, if_pos hb_45, if_neg c_70], rfl, rfl⟩)
          · 
            refine z_ldc (pc := 73) C dX7_item_73 wk_X7_138 ?_
            refine z_goto (pc := 75) C 79 dX7_item_75 (by decide) ?_
            exact z_iret (pc := 79) C ρ dX7_item_79 (⟨_, rfl, by simp only [r_item, hcx0, hcp0, hze, if_pos hb_1, if_neg c_16, if_pos c_29, if_pos hb_45, if_pos c_70], rfl, rfl⟩)
        · 
          refine z_if_neF (pc := 48) C 55 dX7_item_48 (by decide) (by decide) ?_
          refine z_ldcw (pc := 51) C dX7_item_51 wk_X7_270 ?_
          exact z_iret (pc := 54) C ρ dX7_item_54 (⟨_, rfl, by simp only [r_item, hcx0, hze, if_pos hb_1, if_neg c_16, if_pos c_29, if_neg hb_45], rfl, rfl⟩)
      · 
        refine z_ldc (pc := 32) C dX7_item_32 wk_X7_138 ?_
        exact z_iret (pc := 34) C ρ dX7_item_34 (⟨_, rfl, by simp only [r_item, hcx0, if_pos hb_1, if_neg c_16, if_neg c_29], rfl, rfl⟩)
    · 
      refine z_ldc (pc := 19) C dX7_item_19 wk_X7_198 ?_
      exact z_iret (pc := 21) C ρ dX7_item_21 (⟨_, rfl, by simp only [r_item, hcx0, if_pos hb_1, if_pos c_16], rfl, rfl⟩)
  · 
    refine z_if_neF (pc := 4) C 10 dX7_item_4 (by decide) (by decide) ?_
    refine z_ldc (pc := 7) C dX7_item_7 wk_X7_100 ?_
    exact z_iret (pc := 9) C ρ dX7_item_9 (⟨_, rfl, by simp only [r_item, if_neg hb_1], rfl, rfl⟩)
set_option maxRecDepth 100000 in
set_option maxHeartbeats 4000000 in
theorem m7_rest (l : Launch) (E : Ex) (S : Sx) (im : Mem) (M : Nat) (hM : ML S M) (x w : Int32) : Mt l E yX7_rest cX7_rest 3 (some .int) 3 0 0 [.ref M, .int x, .int w] S im (pI (pE S im (r_rest x w (im (M + 20) x.toNatClampNeg) (im (M + 21) x.toNatClampNeg)))) := by
  refine Mt.of (by decide +kernel) rfl rfl (Nat.le_of_ble_eq_true rfl) ?_
  intro κ hκ C ρ
  subst hκ
  show V E κ 3 0 0 0 [some (.ref M), some (.int x), some (.int w)] [] S im
  refine z_iload_n (pc := 0) C dX7_rest_0 rfl ?_
  refine kX7_273 (pc := 1) C dX7_rest_1 (m7_isSlot κ.2.1 E S im x) (by decide) (Nat.le_of_ble_eq_true rfl) (Nat.le_refl _) (Nat.le_refl _) (fun v_1 S_1 im_1 h_1 => ?_)
  rcases h_1 with ⟨hb_1, rfl, rfl, rfl⟩ | ⟨hb_1, rfl, rfl, rfl⟩
  · 
    obtain ⟨x0, hx00, hx0, rfl⟩ := (rng (by decide) (by decide)).mp hb_1
    have hcx0 : (nI x0).toNatClampNeg = x0 := nI_clamp (by omega)
    refine z_if_neT (pc := 4) C 10 dX7_rest_4 (by decide) (by decide) ?_
    refine z_aload_n (pc := 10) C dX7_rest_10 rfl ?_
    refine gX7_73 (pc := 11) C dX7_rest_11 (ml_K hM) (ml_r31 hM) ?_
    refine z_iload_n (pc := 14) C dX7_rest_14 rfl ?_
    refine z_iald (pc := 15) C dX7_rest_15 (ml_a20 hM) (ml_n20 hM) (by omega) (by decide) ?_
    refine z_if_ne (pc := 16) C 22 dX7_rest_16 (by decide) (fun c_16 => ?_) (fun c_16 => ?_)
    · 
      refine z_aload_n (pc := 22) C dX7_rest_22 rfl ?_
      refine gX7_73 (pc := 23) C dX7_rest_23 (ml_K hM) (ml_r31 hM) ?_
      refine z_iload_n (pc := 26) C dX7_rest_26 rfl ?_
      refine z_iald (pc := 27) C dX7_rest_27 (ml_a20 hM) (ml_n20 hM) (by omega) (by decide) ?_
      refine z_iconstN (pc := 28) C 3 dX7_rest_28 ?_
      refine z_icmp_eq (pc := 29) C 35 dX7_rest_29 (by decide) (fun c_29 => ?_) (fun c_29 => ?_)
      · 
        refine z_iload_n (pc := 35) C dX7_rest_35 rfl ?_
        refine z_if_ne (pc := 36) C 45 dX7_rest_36 (by decide) (fun c_36 => ?_) (fun c_36 => ?_)
        · 
          refine z_iload_n (pc := 45) C dX7_rest_45 rfl ?_
          refine z_iconst (v := -1) (pc := 46) C dX7_rest_46 (by decide) ?_
          refine z_icmp_ne (pc := 47) C 54 dX7_rest_47 (by decide) (fun c_47 => ?_) (fun c_47 => ?_)
          · 
            refine z_aload_n (pc := 54) C dX7_rest_54 rfl ?_
            refine gX7_76 (pc := 55) C dX7_rest_55 (ml_K hM) (ml_r32 hM) ?_
            refine z_iload_n (pc := 58) C dX7_rest_58 rfl ?_
            refine z_iald (pc := 59) C dX7_rest_59 (ml_a21 hM) (ml_n21 hM) (by omega) (by decide) ?_
            refine z_iload_n (pc := 60) C dX7_rest_60 rfl ?_
            refine z_irem (pc := 61) C dX7_rest_61 (c_36) ?_
            exact z_iret (pc := 62) C ρ dX7_rest_62 (⟨_, rfl, by simp only [r_rest, hcx0, if_pos hb_1, if_neg c_16, if_pos c_29, if_neg c_36, if_neg c_47], rfl, rfl⟩)
          · 
            refine z_iconstN (pc := 50) C 0 dX7_rest_50 ?_
            refine z_goto (pc := 51) C 62 dX7_rest_51 (by decide) ?_
            exact z_iret (pc := 62) C ρ dX7_rest_62 (⟨_, rfl, by simp only [r_rest, hcx0, if_pos hb_1, if_neg c_16, if_pos c_29, if_neg c_36, if_pos c_47], rfl, rfl⟩)
        · 
          refine z_ldcw (pc := 39) C dX7_rest_39 wk_X7_276 ?_
          refine z_goto (pc := 42) C 62 dX7_rest_42 (by decide) ?_
          exact z_iret (pc := 62) C ρ dX7_rest_62 (⟨_, rfl, by simp only [r_rest, hcx0, if_pos hb_1, if_neg c_16, if_pos c_29, if_pos c_36], rfl, rfl⟩)
      · 
        refine z_ldc (pc := 32) C dX7_rest_32 wk_X7_138 ?_
        exact z_iret (pc := 34) C ρ dX7_rest_34 (⟨_, rfl, by simp only [r_rest, hcx0, if_pos hb_1, if_neg c_16, if_neg c_29], rfl, rfl⟩)
    · 
      refine z_ldc (pc := 19) C dX7_rest_19 wk_X7_198 ?_
      exact z_iret (pc := 21) C ρ dX7_rest_21 (⟨_, rfl, by simp only [r_rest, hcx0, if_pos hb_1, if_pos c_16], rfl, rfl⟩)
  · 
    refine z_if_neF (pc := 4) C 10 dX7_rest_4 (by decide) (by decide) ?_
    refine z_ldc (pc := 7) C dX7_rest_7 wk_X7_100 ?_
    exact z_iret (pc := 9) C ρ dX7_rest_9 (⟨_, rfl, by simp only [r_rest, if_neg hb_1], rfl, rfl⟩)
