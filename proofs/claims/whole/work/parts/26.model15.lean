/-! the reference: copy, lay, rows and images -/
theorem sub_toInt {a b : Nat} (ha : a < 2 ^ 31) (hb : b < 2 ^ 31) : (nI a - nI b).toInt = (a : Int) - b := by
  rw [Int32.toInt_sub, nI_toInt ha, nI_toInt hb, Int.bmod_def]
  split <;> omega
theorem cp_rng {z : Nat} (hz : z ≤ 24) {p w : Int32} (hp : ¬ p < 0) (hw : ¬ w < 0) (h : p ≤ nI z - w) : ∃ p0 w0, p = nI p0 ∧ w = nI w0 ∧ p0 + w0 ≤ z := by
  obtain ⟨p0, hp0, rfl⟩ := nI_of hp
  obtain ⟨w0, hw0, rfl⟩ := nI_of hw
  refine ⟨p0, w0, rfl, rfl, ?_⟩
  rw [Int32.le_iff_toInt_le, sub_toInt (by omega) hw0, nI_toInt hp0] at h
  omega
theorem i_le {x y : Int32} (h : ¬ y < x) : x ≤ y := by rw [Int32.le_iff_toInt_le]; rw [Int32.lt_iff_toInt_lt] at h; omega
def r_copy (x p y q w sx sy zx zy : Int32) : Int32 := if isSh x then (if isSh y then (if sx < 0 then -1000000011 else if 0 ≤ sy then (if sx = sy then (if p < 0 then -1000000013 else if q < 0 then -1000000013 else if w < 0 then -1000000013 else if zx - w < p then -1000000013 else if q ≤ zy - w then w else -1000000013) else -1000000012) else -1000000011) else -1000000001) else -1000000001
def cpC (M : Nat) (im : Mem) (x p y q w : Nat) (im' : Mem) : Prop := (∀ j, im' (M + 19) j = if 24 * y + q ≤ j ∧ j < 24 * y + q + w then im (M + 19) (24 * x + p + (j - (24 * y + q))) else im (M + 19) j) ∧ ∀ a, a ≠ M + 19 → a ≠ M + 24 → im' a = im a
def g_copy (M : Nat) (im : Mem) (x p y q w sx sy zx zy : Int32) (im' : Mem) : Prop := if isSh x then (if isSh y then (if sx < 0 then im' = im else if 0 ≤ sy then (if sx = sy then (if p < 0 then im' = im else if q < 0 then im' = im else if w < 0 then im' = im else if zx - w < p then im' = im else if q ≤ zy - w then cpC M im x.toNatClampNeg p.toNatClampNeg y.toNatClampNeg q.toNatClampNeg w.toNatClampNeg im' else im' = im) else im' = im) else im' = im) else im' = im) else im' = im
set_option maxRecDepth 100000 in
set_option maxHeartbeats 4000000 in
theorem m7_copy (l : Launch) (E : Ex) (S : Sx) (im : Mem) (M : Nat) (hM : ML S M) (hsh : ShOk M im) (x p y q w : Int32) : Mt l E yX7_copy cX7_copy 7 (some .int) 3 0 0 [.ref M, .int x, .int p, .int y, .int q, .int w] S im (pI (pQ S (r_copy x p y q w (im (M + 17) x.toNatClampNeg) (im (M + 17) y.toNatClampNeg) (im (M + 18) x.toNatClampNeg) (im (M + 18) y.toNatClampNeg)) (g_copy M im x p y q w (im (M + 17) x.toNatClampNeg) (im (M + 17) y.toNatClampNeg) (im (M + 18) x.toNatClampNeg) (im (M + 18) y.toNatClampNeg)))) := by
  refine Mt.of (by decide +kernel) rfl rfl (Nat.le_of_ble_eq_true rfl) ?_
  intro κ hκ C ρ
  subst hκ
  show V E κ 7 0 0 0 [some (.ref M), some (.int x), some (.int p), some (.int y), some (.int q), some (.int w), none] [] S im
  refine z_iload_n (pc := 0) C dX7_copy_0 rfl ?_
  refine kX7_195 (pc := 1) C dX7_copy_1 (m7_isSheet κ.2.1 E S im x) (by decide) (Nat.le_of_ble_eq_true rfl) (Nat.le_refl _) (Nat.le_refl _) (fun v_1 S_1 im_1 h_1 => ?_)
  rcases h_1 with ⟨hb_1, rfl, rfl, rfl⟩ | ⟨hb_1, rfl, rfl, rfl⟩
  · 
    obtain ⟨x0, hx00, hx0, rfl⟩ := (rng (by decide) (by decide)).mp hb_1
    have hcx0 : (nI x0).toNatClampNeg = x0 := nI_clamp (by omega)
    obtain ⟨⟨z, hz, hze⟩, hso⟩ := hsh x0 (by omega)
    refine z_if_eqF (pc := 4) C 14 dX7_copy_4 (by decide) (by decide) ?_
    refine z_iload_n (pc := 7) C dX7_copy_7 rfl ?_
    refine kX7_195 (pc := 8) C dX7_copy_8 (m7_isSheet κ.2.1 E S im y) (by decide) (Nat.le_of_ble_eq_true rfl) (Nat.le_refl _) (Nat.le_refl _) (fun v_8 S_8 im_8 h_8 => ?_)
    rcases h_8 with ⟨hb_8, rfl, rfl, rfl⟩ | ⟨hb_8, rfl, rfl, rfl⟩
    · 
      obtain ⟨y0, hy00, hy0, rfl⟩ := (rng (by decide) (by decide)).mp hb_8
      have hcy0 : (nI y0).toNatClampNeg = y0 := nI_clamp (by omega)
      obtain ⟨⟨zy, hzy, hzye⟩, hsoy⟩ := hsh y0 (by omega)
      refine z_if_neT (pc := 11) C 17 dX7_copy_11 (by decide) (by decide) ?_
      refine z_aload_n (pc := 17) C dX7_copy_17 rfl ?_
      refine gX7_64 (pc := 18) C dX7_copy_18 (ml_K hM) (ml_r28 hM) ?_
      refine z_iload_n (pc := 21) C dX7_copy_21 rfl ?_
      refine z_iald (pc := 22) C dX7_copy_22 (ml_a17 hM) (ml_n17 hM) (by omega) (by decide) ?_
      refine z_if_lt (pc := 23) C 35 dX7_copy_23 (by decide) (fun c_23 => ?_) (fun c_23 => ?_)
      · 
        refine z_ldc (pc := 35) C dX7_copy_35 wk_X7_198 ?_
        exact z_iret (pc := 37) C ρ dX7_copy_37 (⟨_, rfl, by simp only [r_copy, hcx0, hcy0, hze, hzye, if_pos hb_1, if_pos hb_8, if_pos c_23], rfl, by simp only [g_copy, hcx0, hcy0, hze, hzye, if_pos hb_1, if_pos hb_8, if_pos c_23]⟩)
      · 
        refine z_aload_n (pc := 26) C dX7_copy_26 rfl ?_
        refine gX7_64 (pc := 27) C dX7_copy_27 (ml_K hM) (ml_r28 hM) ?_
        refine z_iload_n (pc := 30) C dX7_copy_30 rfl ?_
        refine z_iald (pc := 31) C dX7_copy_31 (ml_a17 hM) (ml_n17 hM) (by omega) (by decide) ?_
        refine z_if_ge (pc := 32) C 38 dX7_copy_32 (by decide) (fun c_32 => ?_) (fun c_32 => ?_)
        · 
          refine z_aload_n (pc := 38) C dX7_copy_38 rfl ?_
          refine gX7_64 (pc := 39) C dX7_copy_39 (ml_K hM) (ml_r28 hM) ?_
          refine z_iload_n (pc := 42) C dX7_copy_42 rfl ?_
          refine z_iald (pc := 43) C dX7_copy_43 (ml_a17 hM) (ml_n17 hM) (by omega) (by decide) ?_
          refine z_aload_n (pc := 44) C dX7_copy_44 rfl ?_
          refine gX7_64 (pc := 45) C dX7_copy_45 (ml_K hM) (ml_r28 hM) ?_
          refine z_iload_n (pc := 48) C dX7_copy_48 rfl ?_
          refine z_iald (pc := 49) C dX7_copy_49 (ml_a17 hM) (ml_n17 hM) (by omega) (by decide) ?_
          refine z_icmp_eq (pc := 50) C 56 dX7_copy_50 (by decide) (fun c_50 => ?_) (fun c_50 => ?_)
          · 
            refine z_iload_n (pc := 56) C dX7_copy_56 rfl ?_
            refine z_if_lt (pc := 57) C 97 dX7_copy_57 (by decide) (fun c_57 => ?_) (fun c_57 => ?_)
            · 
              refine z_ldcw (pc := 97) C dX7_copy_97 wk_X7_270 ?_
              exact z_iret (pc := 100) C ρ dX7_copy_100 (⟨_, rfl, by simp only [r_copy, hcx0, hcy0, hze, hzye, if_pos hb_1, if_pos hb_8, if_neg c_23, if_pos c_32, if_pos c_50, if_pos c_57], rfl, by simp only [g_copy, hcx0, hcy0, hze, hzye, if_pos hb_1, if_pos hb_8, if_neg c_23, if_pos c_32, if_pos c_50, if_pos c_57]⟩)
            · 
              refine z_iload (pc := 60) C dX7_copy_60 rfl ?_
              refine z_if_lt (pc := 62) C 97 dX7_copy_62 (by decide) (fun c_62 => ?_) (fun c_62 => ?_)
              · 
                refine z_ldcw (pc := 97) C dX7_copy_97 wk_X7_270 ?_
                exact z_iret (pc := 100) C ρ dX7_copy_100 (⟨_, rfl, by simp only [r_copy, hcx0, hcy0, hze, hzye, if_pos hb_1, if_pos hb_8, if_neg c_23, if_pos c_32, if_pos c_50, if_neg c_57, if_pos c_62], rfl, by simp only [g_copy, hcx0, hcy0, hze, hzye, if_pos hb_1, if_pos hb_8, if_neg c_23, if_pos c_32, if_pos c_50, if_neg c_57, if_pos c_62]⟩)
              · 
                refine z_iload (pc := 65) C dX7_copy_65 rfl ?_
                refine z_if_lt (pc := 67) C 97 dX7_copy_67 (by decide) (fun c_67 => ?_) (fun c_67 => ?_)
                · 
                  refine z_ldcw (pc := 97) C dX7_copy_97 wk_X7_270 ?_
                  exact z_iret (pc := 100) C ρ dX7_copy_100 (⟨_, rfl, by simp only [r_copy, hcx0, hcy0, hze, hzye, if_pos hb_1, if_pos hb_8, if_neg c_23, if_pos c_32, if_pos c_50, if_neg c_57, if_neg c_62, if_pos c_67], rfl, by simp only [g_copy, hcx0, hcy0, hze, hzye, if_pos hb_1, if_pos hb_8, if_neg c_23, if_pos c_32, if_pos c_50, if_neg c_57, if_neg c_62, if_pos c_67]⟩)
                · 
                  refine z_iload_n (pc := 70) C dX7_copy_70 rfl ?_
                  refine z_aload_n (pc := 71) C dX7_copy_71 rfl ?_
                  refine gX7_67 (pc := 72) C dX7_copy_72 (ml_K hM) (ml_r29 hM) ?_
                  refine z_iload_n (pc := 75) C dX7_copy_75 rfl ?_
                  refine z_iald (pc := 76) C dX7_copy_76 (ml_a18 hM) (ml_n18 hM) (by omega) (by decide) ?_
                  refine z_eqi (y := nI z) (hze) ?_
                  refine z_iload (pc := 77) C dX7_copy_77 rfl ?_
                  refine z_isub (pc := 79) C dX7_copy_79 ?_
                  refine z_icmp_gt (pc := 80) C 97 dX7_copy_80 (by decide) (fun c_80 => ?_) (fun c_80 => ?_)
                  · 
                    refine z_ldcw (pc := 97) C dX7_copy_97 wk_X7_270 ?_
                    exact z_iret (pc := 100) C ρ dX7_copy_100 (⟨_, rfl, by simp only [r_copy, hcx0, hcy0, hze, hzye, if_pos hb_1, if_pos hb_8, if_neg c_23, if_pos c_32, if_pos c_50, if_neg c_57, if_neg c_62, if_neg c_67, if_pos c_80], rfl, by simp only [g_copy, hcx0, hcy0, hze, hzye, if_pos hb_1, if_pos hb_8, if_neg c_23, if_pos c_32, if_pos c_50, if_neg c_57, if_neg c_62, if_neg c_67, if_pos c_80]⟩)
                  · 
                    refine z_iload (pc := 83) C dX7_copy_83 rfl ?_
                    refine z_aload_n (pc := 85) C dX7_copy_85 rfl ?_
                    refine gX7_67 (pc := 86) C dX7_copy_86 (ml_K hM) (ml_r29 hM) ?_
                    refine z_iload_n (pc := 89) C dX7_copy_89 rfl ?_
                    refine z_iald (pc := 90) C dX7_copy_90 (ml_a18 hM) (ml_n18 hM) (by omega) (by decide) ?_
                    refine z_eqi (y := nI zy) (hzye) ?_
                    refine z_iload (pc := 91) C dX7_copy_91 rfl ?_
                    refine z_isub (pc := 93) C dX7_copy_93 ?_
                    refine z_icmp_le (pc := 94) C 101 dX7_copy_94 (by decide) (fun c_94 => ?_) (fun c_94 => ?_)
                    · 
                      obtain ⟨p0, w0, rfl, rfl, hpw⟩ := cp_rng hz c_57 c_67 (i_le c_80)
                      obtain ⟨q0, w1, rfl, e67, hqw⟩ := cp_rng hzy c_62 c_67 c_94
                      rw [nI_eq (by omega) (by omega)] at e67
                      subst e67
                      have hr : r_copy (nI x0) (nI p0) (nI y0) (nI q0) (nI w0) (im (M + 17) (nI x0).toNatClampNeg) (im (M + 17) (nI y0).toNatClampNeg) (im (M + 18) (nI x0).toNatClampNeg) (im (M + 18) (nI y0).toNatClampNeg) = nI w0 := by simp only [r_copy, hcx0, hcy0, hze, hzye, if_pos hb_1, if_pos hb_8, if_neg c_23, if_pos c_32, if_pos c_50, if_neg c_57, if_neg c_62, if_neg c_67, if_neg c_80, if_pos c_94]
                      have hG : ∀ im2 : Mem, cpC M im x0 p0 y0 q0 w0 im2 → g_copy M im (nI x0) (nI p0) (nI y0) (nI q0) (nI w0) (im (M + 17) (nI x0).toNatClampNeg) (im (M + 17) (nI y0).toNatClampNeg) (im (M + 18) (nI x0).toNatClampNeg) (im (M + 18) (nI y0).toNatClampNeg) im2 := fun im2 h => by
                        simp only [g_copy, hcx0, hcy0, hze, hzye, if_pos hb_1, if_pos hb_8, if_neg c_23, if_pos c_32, if_pos c_50, if_neg c_57, if_neg c_62, if_neg c_67, if_neg c_80, if_pos c_94, nI_clamp (show p0 < 2 ^ 31 by omega), nI_clamp (show q0 < 2 ^ 31 by omega), nI_clamp (show w0 < 2 ^ 31 by omega)]
                        exact h
                      have loopB : ∀ (im1 : Mem), (∀ j, j < w0 → im1 (M + 24) j = im (M + 19) (24 * x0 + p0 + j)) → (∀ a, a ≠ M + 24 → im1 a = im a) → ∀ (r k : Nat) (im' : Mem), k + r = w0 → (∀ j, im' (M + 19) j = if 24 * y0 + q0 ≤ j ∧ j < 24 * y0 + q0 + k then im (M + 19) (24 * x0 + p0 + (j - (24 * y0 + q0))) else im (M + 19) j) → (∀ a, a ≠ M + 19 → im' a = im1 a) → V E κ 7 0 0 141 [some (.ref M), some (.int (nI x0)), some (.int (nI p0)), some (.int (nI y0)), some (.int (nI q0)), some (.int (nI w0)), some (.int (nI k))] [] S im' := by
                        intro im1 hmv ho1 r
                        induction r with
                        | zero =>
                          intro k im' hk hc ho
                          refine z_iload (pc := 141) C dX7_copy_141 rfl ?_
                          refine z_iload (pc := 143) C dX7_copy_143 rfl ?_
                          refine z_icmp_geT (pc := 145) C 176 dX7_copy_145 (by decide) (nI_le (by omega) (by omega)) ?_
                          refine z_iload (pc := 176) C dX7_copy_176 rfl ?_
                          exact z_iret (pc := 178) C ρ dX7_copy_178 (⟨_, rfl, hr, rfl, hG _ ⟨fun j => by rw [hc j, show k = w0 by omega], fun a q1 q2 => by rw [ho a q1]; exact ho1 a q2⟩⟩)
                        | succ r ih =>
                          intro k im' hk hc ho
                          refine z_iload (pc := 141) C dX7_copy_141 rfl ?_
                          refine z_iload (pc := 143) C dX7_copy_143 rfl ?_
                          refine z_icmp_geF (pc := 145) C 176 dX7_copy_145 (by decide) (nI_ge (by omega) (by omega)) ?_
                          refine z_aload_n (pc := 148) C dX7_copy_148 rfl ?_
                          refine gX7_70 (pc := 149) C dX7_copy_149 (ml_K hM) (ml_r30 hM) ?_
                          refine z_bipushN (pc := 152) C 24 (by decide) dX7_copy_152 ?_
                          refine z_iload_n (pc := 154) C dX7_copy_154 rfl ?_
                          refine z_imulN (pc := 155) C dX7_copy_155 ?_
                          refine z_iload (pc := 156) C dX7_copy_156 rfl ?_
                          refine z_iaddN (pc := 158) C dX7_copy_158 ?_
                          refine z_iload (pc := 159) C dX7_copy_159 rfl ?_
                          refine z_iaddN (pc := 161) C dX7_copy_161 ?_
                          refine z_aload_n (pc := 162) C dX7_copy_162 rfl ?_
                          refine gX7_85 (pc := 163) C dX7_copy_163 (ml_K hM) (ml_r35 hM) ?_
                          refine z_iload (pc := 166) C dX7_copy_166 rfl ?_
                          refine z_iald (pc := 168) C dX7_copy_168 (ml_a24 hM) (ml_n24 hM) (by omega) (by decide) ?_
                          refine z_eqi (y := im (M + 19) (24 * x0 + p0 + k)) (by rw [ho _ (by omega)]; exact hmv k (by omega)) ?_
                          refine z_iast (pc := 169) C dX7_copy_169 (ml_a19 hM) (ml_n19 hM) (by omega) (by decide) ?_
                          refine z_iincN (pc := 170) C 1 dX7_copy_170 rfl (by decide) rfl ?_
                          refine z_goto (pc := 173) C 141 dX7_copy_173 (by decide) ?_
                          refine ih (k + 1) _ (by omega) (fun j => ?_) (fun a h => by rw [up2_n _ _ _ h]; exact ho a h)
                          rw [up2_s]
                          by_cases e : j = 24 * y0 + q0 + k
                          · rw [e, upd_s, if_pos ⟨by omega, by omega⟩, show 24 * y0 + q0 + k - (24 * y0 + q0) = k by omega]
                          · rw [upd_n _ _ e, hc j]
                            by_cases e2 : 24 * y0 + q0 ≤ j ∧ j < 24 * y0 + q0 + k
                            · rw [if_pos e2, if_pos ⟨by omega, by omega⟩]
                            · rw [if_neg e2, if_neg (by omega)]
                      have loopA : ∀ (r k : Nat) (im' : Mem), k + r = w0 → (∀ j, j < k → im' (M + 24) j = im (M + 19) (24 * x0 + p0 + j)) → (∀ a, a ≠ M + 24 → im' a = im a) → V E κ 7 0 0 104 [some (.ref M), some (.int (nI x0)), some (.int (nI p0)), some (.int (nI y0)), some (.int (nI q0)), some (.int (nI w0)), some (.int (nI k))] [] S im' := by
                        intro r
                        induction r with
                        | zero =>
                          intro k im' hk hmv ho
                          refine z_iload (pc := 104) C dX7_copy_104 rfl ?_
                          refine z_iload (pc := 106) C dX7_copy_106 rfl ?_
                          refine z_icmp_geT (pc := 108) C 138 dX7_copy_108 (by decide) (nI_le (by omega) (by omega)) ?_
                          refine z_iconstN (pc := 138) C 0 dX7_copy_138 ?_
                          refine z_istore (pc := 139) C dX7_copy_139 (by decide) rfl ?_
                          exact loopB _ (fun j hj => hmv j (by omega)) ho w0 0 _ (by omega) (fun j => by rw [if_neg (by omega), ho _ (by omega)]) (fun _ _ => rfl)
                        | succ r ih =>
                          intro k im' hk hmv ho
                          refine z_iload (pc := 104) C dX7_copy_104 rfl ?_
                          refine z_iload (pc := 106) C dX7_copy_106 rfl ?_
                          refine z_icmp_geF (pc := 108) C 138 dX7_copy_108 (by decide) (nI_ge (by omega) (by omega)) ?_
                          refine z_aload_n (pc := 111) C dX7_copy_111 rfl ?_
                          refine gX7_85 (pc := 112) C dX7_copy_112 (ml_K hM) (ml_r35 hM) ?_
                          refine z_iload (pc := 115) C dX7_copy_115 rfl ?_
                          refine z_aload_n (pc := 117) C dX7_copy_117 rfl ?_
                          refine gX7_70 (pc := 118) C dX7_copy_118 (ml_K hM) (ml_r30 hM) ?_
                          refine z_bipushN (pc := 121) C 24 (by decide) dX7_copy_121 ?_
                          refine z_iload_n (pc := 123) C dX7_copy_123 rfl ?_
                          refine z_imulN (pc := 124) C dX7_copy_124 ?_
                          refine z_iload_n (pc := 125) C dX7_copy_125 rfl ?_
                          refine z_iaddN (pc := 126) C dX7_copy_126 ?_
                          refine z_iload (pc := 127) C dX7_copy_127 rfl ?_
                          refine z_iaddN (pc := 129) C dX7_copy_129 ?_
                          refine z_iald (pc := 130) C dX7_copy_130 (ml_a19 hM) (ml_n19 hM) (by omega) (by decide) ?_
                          refine z_eqi (y := im (M + 19) (24 * x0 + p0 + k)) (by rw [ho _ (by omega)]) ?_
                          refine z_iast (pc := 131) C dX7_copy_131 (ml_a24 hM) (ml_n24 hM) (by omega) (by decide) ?_
                          refine z_iincN (pc := 132) C 1 dX7_copy_132 rfl (by decide) rfl ?_
                          refine z_goto (pc := 135) C 104 dX7_copy_135 (by decide) ?_
                          refine ih (k + 1) _ (by omega) (fun j hj => ?_) (fun a h => by rw [up2_n _ _ _ h]; exact ho a h)
                          rw [up2_s]
                          by_cases e : j = k
                          · rw [e, upd_s]
                          · rw [upd_n _ _ e]; exact hmv j (by omega)
                      refine z_iconstN (pc := 101) C 0 dX7_copy_101 ?_
                      refine z_istore (pc := 102) C dX7_copy_102 (by decide) rfl ?_
                      exact loopA w0 0 im (by omega) (fun j h => absurd h (Nat.not_lt_zero _)) (fun _ _ => rfl)
                    · 
                      refine z_ldcw (pc := 97) C dX7_copy_97 wk_X7_270 ?_
                      exact z_iret (pc := 100) C ρ dX7_copy_100 (⟨_, rfl, by simp only [r_copy, hcx0, hcy0, hze, hzye, if_pos hb_1, if_pos hb_8, if_neg c_23, if_pos c_32, if_pos c_50, if_neg c_57, if_neg c_62, if_neg c_67, if_neg c_80, if_neg c_94], rfl, by simp only [g_copy, hcx0, hcy0, hze, hzye, if_pos hb_1, if_pos hb_8, if_neg c_23, if_pos c_32, if_pos c_50, if_neg c_57, if_neg c_62, if_neg c_67, if_neg c_80, if_neg c_94]⟩)
          · 
            refine z_ldc (pc := 53) C dX7_copy_53 wk_X7_138 ?_
            exact z_iret (pc := 55) C ρ dX7_copy_55 (⟨_, rfl, by simp only [r_copy, hcx0, hcy0, hze, hzye, if_pos hb_1, if_pos hb_8, if_neg c_23, if_pos c_32, if_neg c_50], rfl, by simp only [g_copy, hcx0, hcy0, hze, hzye, if_pos hb_1, if_pos hb_8, if_neg c_23, if_pos c_32, if_neg c_50]⟩)
        · 
          refine z_ldc (pc := 35) C dX7_copy_35 wk_X7_198 ?_
          exact z_iret (pc := 37) C ρ dX7_copy_37 (⟨_, rfl, by simp only [r_copy, hcx0, hcy0, hze, hzye, if_pos hb_1, if_pos hb_8, if_neg c_23, if_neg c_32], rfl, by simp only [g_copy, hcx0, hcy0, hze, hzye, if_pos hb_1, if_pos hb_8, if_neg c_23, if_neg c_32]⟩)
    · 
      refine z_if_neF (pc := 11) C 17 dX7_copy_11 (by decide) (by decide) ?_
      refine z_ldc (pc := 14) C dX7_copy_14 wk_X7_100 ?_
      exact z_iret (pc := 16) C ρ dX7_copy_16 (⟨_, rfl, by first | simp only [r_copy, if_pos hb_1, if_neg hb_8] | simp only [r_copy, hcx0, if_pos hb_1, if_neg hb_8], rfl, by simp only [g_copy, if_pos hb_1, if_neg hb_8]⟩)
  · 
    refine z_if_eqT (pc := 4) C 14 dX7_copy_4 (by decide) (by decide) ?_
    refine z_ldc (pc := 14) C dX7_copy_14 wk_X7_100 ?_
    exact z_iret (pc := 16) C ρ dX7_copy_16 (⟨_, rfl, by first | simp only [r_copy, if_neg hb_1] | simp only [r_copy, hcx0, if_neg hb_1], rfl, by simp only [g_copy, if_neg hb_1]⟩)
def r_tell (wt : Nat) : Int32 := if wt = 60 then -1000000003 else nI (wt + 1)
set_option maxRecDepth 100000 in
set_option maxHeartbeats 4000000 in
theorem m7_tell (l : Launch) (E : Ex) (S : Sx) (im : Mem) (M : Nat) (hM : ML S M) (wt : Nat) (hwt : wt ≤ 60) (hw : im M 37 = nI wt) (x : Int32) : Mt l E yX7_tell cX7_tell 2 (some .int) 1 0 0 [.ref M, .int x] S im (pI (pQ S (r_tell wt) (fun im' => im' = if wt = 60 then im else up2 (up2 im (M + 25) wt x) M 37 (nI (wt + 1))))) := by
  refine Mt.of (by decide +kernel) rfl rfl (Nat.le_of_ble_eq_true rfl) ?_
  intro κ hκ C ρ
  subst hκ
  show V E κ 2 0 0 0 [some (.ref M), some (.int x)] [] S im
  refine z_aload_n (pc := 0) C dX7_tell_0 rfl ?_
  refine gX7_277 (pc := 1) C dX7_tell_1 (ml_K hM) ?_
  refine z_eqi (y := nI wt) (hw) ?_
  refine z_bipushN (pc := 4) C 60 (by decide) dX7_tell_4 ?_
  refine z_icmp_neN (pc := 6) C 12 dX7_tell_6 (by decide) (by omega) (by omega) (fun c_6 => ?_) (fun c_6 => ?_)
  · 
    refine z_aload_n (pc := 12) C dX7_tell_12 rfl ?_
    refine gX7_88 (pc := 13) C dX7_tell_13 (ml_K hM) (ml_r36 hM) ?_
    refine z_aload_n (pc := 16) C dX7_tell_16 rfl ?_
    refine gX7_277 (pc := 17) C dX7_tell_17 (ml_K hM) ?_
    refine z_eqi (y := nI wt) (hw) ?_
    refine z_iload_n (pc := 20) C dX7_tell_20 rfl ?_
    refine z_iast (pc := 21) C dX7_tell_21 (ml_a25 hM) (ml_n25 hM) (by omega) (by decide) ?_
    refine z_aload_n (pc := 22) C dX7_tell_22 rfl ?_
    refine z_dup (pc := 23) C dX7_tell_23 rfl ?_
    refine gX7_277 (pc := 24) C dX7_tell_24 (ml_K hM) ?_
    refine z_eqi (y := nI wt) (by rw [up2_n _ _ _ (by omega)]; exact hw) ?_
    refine z_iconstN (pc := 27) C 1 dX7_tell_27 ?_
    refine z_iaddN (pc := 28) C dX7_tell_28 ?_
    refine pX7_277 (pc := 29) C dX7_tell_29 (ml_K hM) ?_
    refine z_aload_n (pc := 32) C dX7_tell_32 rfl ?_
    refine gX7_277 (pc := 33) C dX7_tell_33 (ml_K hM) ?_
    refine z_eqi (y := nI (wt + 1)) (by rw [up2_s, upd_s]) ?_
    exact z_iret (pc := 36) C ρ dX7_tell_36 (⟨_, rfl, by simp only [r_tell, if_neg c_6], rfl, by simp only [if_neg c_6]⟩)
  · 
    refine z_ldc (pc := 9) C dX7_tell_9 wk_X7_101 ?_
    exact z_iret (pc := 11) C ρ dX7_tell_11 (⟨_, rfl, by simp only [r_tell, if_pos c_6], rfl, by simp only [if_pos c_6]⟩)
def r_trim (tp : Nat) (x : Int32) : Int32 := if nI 0 ≤ x ∧ x ≤ nI tp then x else -1000000001
set_option maxRecDepth 100000 in
set_option maxHeartbeats 4000000 in
theorem m7_trim (l : Launch) (E : Ex) (S : Sx) (im : Mem) (M : Nat) (hM : ML S M) (tp : Nat) (ht : im M 11 = nI tp) (x : Int32) : Mt l E yX7_trim cX7_trim 2 (some .int) 2 0 0 [.ref M, .int x] S im (pI (pQ S (r_trim tp x) (fun im' => im' = if nI 0 ≤ x ∧ x ≤ nI tp then up2 im M 11 x else im))) := by
  refine Mt.of (by decide +kernel) rfl rfl (Nat.le_of_ble_eq_true rfl) ?_
  intro κ hκ C ρ
  subst hκ
  show V E κ 2 0 0 0 [some (.ref M), some (.int x)] [] S im
  refine z_iload_n (pc := 0) C dX7_trim_0 rfl ?_
  refine z_iconstN (pc := 1) C 0 dX7_trim_1 ?_
  refine z_aload_n (pc := 2) C dX7_trim_2 rfl ?_
  refine gX7_203 (pc := 3) C dX7_trim_3 (ml_K hM) ?_
  refine z_eqi (y := nI tp) (ht) ?_
  refine kX7_92 (pc := 6) C dX7_trim_6 (m7_in κ.2.1 E S im x (nI 0) (nI tp)) (by decide) (Nat.le_of_ble_eq_true rfl) (Nat.le_refl _) (Nat.le_refl _) (fun v_6 S_6 im_6 h_6 => ?_)
  rcases h_6 with ⟨hb_6, rfl, rfl, rfl⟩ | ⟨hb_6, rfl, rfl, rfl⟩
  · 
    refine z_if_neT (pc := 9) C 15 dX7_trim_9 (by decide) (by decide) ?_
    refine z_aload_n (pc := 15) C dX7_trim_15 rfl ?_
    refine z_iload_n (pc := 16) C dX7_trim_16 rfl ?_
    refine pX7_203 (pc := 17) C dX7_trim_17 (ml_K hM) ?_
    refine z_iload_n (pc := 20) C dX7_trim_20 rfl ?_
    exact z_iret (pc := 21) C ρ dX7_trim_21 (⟨_, rfl, by simp only [r_trim, if_pos hb_6], rfl, by simp only [if_pos hb_6]⟩)
  · 
    refine z_if_neF (pc := 9) C 15 dX7_trim_9 (by decide) (by decide) ?_
    refine z_ldc (pc := 12) C dX7_trim_12 wk_X7_100 ?_
    exact z_iret (pc := 14) C ρ dX7_trim_14 (⟨_, rfl, by simp only [r_trim, if_neg hb_6], rfl, by simp only [if_neg hb_6]⟩)
