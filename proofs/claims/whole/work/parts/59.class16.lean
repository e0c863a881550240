/-! the class: ranges; burnAsLamp, light -/
/-- the numbers are in their ranges -/
def RG (f : Nat → Int32) (n : Nat) : Prop := inR 0 9 (f 4) ∧ inR 60 999 (f 5) ∧ ∀ l, l < n → inR 0 5 (f (8 + 7 * l + 0)) ∧ inR 0 99 (f (8 + 7 * l + 1)) ∧ inR 0 999 (f (8 + 7 * l + 2)) ∧ inR 0 99 (f (8 + 7 * l + 3)) ∧ inR 0 9999 (f (8 + 7 * l + 4))
theorem inR_nI {k : Nat} {x : Int32} (h : inR 0 k x) : ∃ j, j ≤ k ∧ x = nI j := by
  obtain ⟨h1, h2⟩ := h
  obtain ⟨j, hj, rfl⟩ := nI_of (x := x) (by rw [Int32.lt_iff_toInt_lt, Int32.toInt_zero]; omega)
  rw [nI_toInt hj] at h2
  exact ⟨j, by omega, rfl⟩
theorem nI_R {j : Nat} {k : Int} (h : (j : Int) ≤ k) (hk : j < 2 ^ 31) : inR 0 k (nI j) := by
  unfold inR
  rw [nI_toInt (by omega)]
  omega
theorem inR_wk {a b c d : Int} {x : Int32} (h : inR a b x) (h1 : c ≤ a) (h2 : b ≤ d) : inR c d x := ⟨by have := h.1; omega, by have := h.2; omega⟩
theorem plain_rng {o w : Int32} (ho : inR 0 999 o) (hw : inR 0 9 w) : inR 0 9999 (nI 10 * o - w * o / nI 2) := by
  obtain ⟨a, ha, rfl⟩ := inR_nI (k := 999) ho
  obtain ⟨b, hb, rfl⟩ := inR_nI (k := 9) hw
  have h1 : b * a ≤ 9 * a := Nat.mul_le_mul_right a hb
  rw [pk_mul, pk_mul, pk_div (by omega) (by decide) (by decide), pk_sub (by omega)]
  exact nI_R (by omega) (by omega)
theorem within_rng {x : Int32} {a b : Nat} (h : a ≤ b) (hb : b < 2 ^ 31) : inR a b (s_within x (nI a) (nI b)) := by
  rw [← held_within x (by rw [nI_toInt (by omega), nI_toInt hb]; omega)]
  unfold inR
  rw [mx_toI, mn_toI, nI_toInt (by omega), nI_toInt hb]
  split <;> split <;> omega
theorem within_id {x : Int32} {a b : Nat} (hb : b < 2 ^ 31) (h : inR a b x) : s_within x (nI a) (nI b) = x := by
  obtain ⟨h1, h2⟩ := h
  unfold s_within
  rw [if_pos (by rw [Int32.le_iff_toInt_le, nI_toInt (by omega)]; exact h1), if_pos (by rw [Int32.le_iff_toInt_le, nI_toInt hb]; exact h2)]
theorem s_plain_t {f : Nat → Int32} {n7 t key m : Nat} {o w s : Int32} (ht : t < 14) (hc : s_cnt f (nI 0) n7 = nI t) (hk : TxOk f t key m) : s_plain f n7 o w s = s_within (s_val f t m (fa3 o w s)) (nI 0) (nI 9999) := by
  unfold s_plain
  rw [hc, if_pos (nI_pos' (by omega)), nI_clamp (by omega), s_len_eq hk]
theorem s_plain_d {f : Nat → Int32} {n7 : Nat} {o w s : Int32} (hc : s_cnt f (nI 0) n7 = -1) : s_plain f n7 o w s = nI 10 * o - w * o / nI 2 := by
  unfold s_plain
  rw [hc, if_neg (by decide)]
theorem s_plain_r {f : Nat → Int32} {n7 : Nat} {o w s : Int32} (ho : inR 0 999 o) (hw : inR 0 9 w) : inR 0 9999 (s_plain f n7 o w s) := by
  unfold s_plain
  by_cases h : 0 ≤ s_cnt f (nI 0) n7
  · rw [if_pos h]; exact within_rng (by decide) (by decide)
  · rw [if_neg h]; exact plain_rng ho hw
set_option maxRecDepth 100000 in
set_option maxHeartbeats 4000000 in
theorem c3_burnAsLamp (l : Launch) (E : Ex) (S : Sx) (im : Mem) (q : Nat) (hs : SL S q) (f : Nat → Int32) (n : Nat) (hr : SR im q f n) (X n7 : Nat) (hT : TR S im q X f n7) (hqX : q + 15 ≤ X) (hg : RG f n) (l0 : Nat) (hl : l0 < n) : Mt l E yX3_burnAsLamp cX3_burnAsLamp 4 (some .int) 3 0 0 [.ref q, .ref (q + 5 + l0)] S im (pI (fun v S' im' => s_plain f n7 (f (8 + 7 * l0 + 2)) (f 4) (f (8 + 7 * l0 + 1)) = v ∧ S = S' ∧ frS X im im')) := by
  refine Mt.of (by decide +kernel) rfl rfl (Nat.le_of_ble_eq_true rfl) ?_
  intro κ hκ C ρ
  subst hκ
  show V E κ 4 0 0 0 [some (.ref q), some (.ref (q + 5 + l0)), none, none] [] S im
  have hl10 : l0 < 10 := by have := hr.1.1; omega
  have hgl := hg.2.2 l0 hl
  refine z_aload_n (pc := 0) C dX3_burnAsLamp_0 rfl ?_
  refine z_iconstN (pc := 1) C 0 dX3_burnAsLamp_1 ?_
  refine kX3_144 (pc := 2) C dX3_burnAsLamp_2 (c3_textThatCounts κ.2.1 E S im q hs X f n7 hT 0 (by decide)) (sl_K hs) (by decide) (Nat.le_of_ble_eq_true rfl) (Nat.le_refl _) (Nat.le_refl _) (fun v_2 S_2 im_2 h_2 => ?_)
  obtain ⟨hd, rfl, rfl⟩ := h_2
  rcases hd with ⟨hc, rfl⟩ | ⟨t, i, m, key, u, htn, hc, hy, hx, rfl⟩
  · show V E κ 4 0 0 5 [some (.ref q), some (.ref (q + 5 + l0)), none, none] [.null] S im
    refine z_astore_nN (pc := 5) C dX3_burnAsLamp_5 (by decide) rfl ?_
    refine z_aload_nN (pc := 6) C dX3_burnAsLamp_6 rfl ?_
    refine z_ifnonnullN (pc := 7) C dX3_burnAsLamp_7 ?_
    refine z_aload_n (pc := 10) C dX3_burnAsLamp_10 rfl ?_
    refine gX3_73 (pc := 11) C dX3_burnAsLamp_11 (sl_l hs (i := l0) (by omega)) ?_
    refine z_eqi (y := f (8 + 7 * l0 + 2)) (hr.2.2 l0 hl 2 (by decide)) ?_
    refine z_bipushN (pc := 14) C 10 (by decide) dX3_burnAsLamp_14 ?_
    refine z_imul (pc := 16) C dX3_burnAsLamp_16 ?_
    refine z_aload_n (pc := 17) C dX3_burnAsLamp_17 rfl ?_
    refine gX3_49 (pc := 18) C dX3_burnAsLamp_18 (sl_K hs) ?_
    refine z_eqi (y := f 4) (hr.2.1.2.2.2.1) ?_
    refine z_aload_n (pc := 21) C dX3_burnAsLamp_21 rfl ?_
    refine gX3_73 (pc := 22) C dX3_burnAsLamp_22 (sl_l hs (i := l0) (by omega)) ?_
    refine z_eqi (y := f (8 + 7 * l0 + 2)) (hr.2.2 l0 hl 2 (by decide)) ?_
    refine z_imul (pc := 25) C dX3_burnAsLamp_25 ?_
    refine z_iconstN (pc := 26) C 2 dX3_burnAsLamp_26 ?_
    refine z_idiv (pc := 27) C dX3_burnAsLamp_27 (by decide) ?_
    refine z_isub (pc := 28) C dX3_burnAsLamp_28 ?_
    refine z_goto (pc := 29) C 48 dX3_burnAsLamp_29 (by decide) ?_
    refine z_istore_n (pc := 48) C dX3_burnAsLamp_48 (by decide) rfl ?_
    refine z_iload_n (pc := 49) C dX3_burnAsLamp_49 rfl ?_
    refine z_iconstN (pc := 50) C 0 dX3_burnAsLamp_50 ?_
    refine z_sipush (v := nI 9999) (pc := 51) C dX3_burnAsLamp_51 (by decide +kernel) ?_
    refine kX3_152 (pc := 54) C dX3_burnAsLamp_54 (c6_held κ.2.1 E S im _ (nI 0) (nI 9999)) (by decide) (Nat.le_of_ble_eq_true rfl) (Nat.le_refl _) (Nat.le_refl _) (fun v_54 S_54 im_54 h_54 => ?_)
    obtain ⟨rfl, rfl, rfl⟩ := h_54
    exact z_iret (pc := 57) C ρ dX3_burnAsLamp_57 (⟨_, rfl, by rw [s_plain_d hc, held_within _ (by decide), Int32.mul_comm (f (8 + 7 * l0 + 2)) (nI 10)]; exact (within_id (a := 0) (b := 9999) (by decide) (plain_rng hgl.2.2.1 hg.1)).symm, rfl, frS.rf⟩)
  · show V E κ 4 0 0 5 [some (.ref q), some (.ref (q + 5 + l0)), none, none] [.ref (X + 3 * i + 1)] S im
    refine z_astore_n (pc := 5) C dX3_burnAsLamp_5 (by decide) rfl ?_
    refine z_aload_n (pc := 6) C dX3_burnAsLamp_6 rfl ?_
    refine z_ifnonnull (pc := 7) C 32 dX3_burnAsLamp_7 (by decide) ?_
    refine z_aload_n (pc := 32) C dX3_burnAsLamp_32 rfl ?_
    refine z_aload_n (pc := 33) C dX3_burnAsLamp_33 rfl ?_
    refine gX3_73 (pc := 34) C dX3_burnAsLamp_34 (sl_l hs (i := l0) (by omega)) ?_
    refine z_eqi (y := f (8 + 7 * l0 + 2)) (hr.2.2 l0 hl 2 (by decide)) ?_
    refine z_aload_n (pc := 37) C dX3_burnAsLamp_37 rfl ?_
    refine gX3_49 (pc := 38) C dX3_burnAsLamp_38 (sl_K hs) ?_
    refine z_eqi (y := f 4) (hr.2.1.2.2.2.1) ?_
    refine z_aload_n (pc := 41) C dX3_burnAsLamp_41 rfl ?_
    refine gX3_70 (pc := 42) C dX3_burnAsLamp_42 (sl_l hs (i := l0) (by omega)) ?_
    refine z_eqi (y := f (8 + 7 * l0 + 1)) (hr.2.2 l0 hl 1 (by decide)) ?_
    refine kX3_148 (pc := 45) C dX3_burnAsLamp_45 (c4_gives κ.2.1 E S im (X + 3 * i) m u hx.1 (s_row f t) (nnm key) (nnm_le key) hx.2.1.2.2 hx.2.2.1 hx.2.2.2.1 (f (8 + 7 * l0 + 2)) (f 4) (f (8 + 7 * l0 + 1))) hx.1.2.2.1 (by decide) (Nat.le_of_ble_eq_true rfl) (Nat.le_refl _) (Nat.le_refl _) (fun v_45 S_45 im_45 h_45 => ?_)
    obtain ⟨rfl, rfl, hst⟩ := h_45
    refine z_istore_n (pc := 48) C dX3_burnAsLamp_48 (by decide) rfl ?_
    refine z_iload_n (pc := 49) C dX3_burnAsLamp_49 rfl ?_
    refine z_iconstN (pc := 50) C 0 dX3_burnAsLamp_50 ?_
    refine z_sipush (v := nI 9999) (pc := 51) C dX3_burnAsLamp_51 (by decide +kernel) ?_
    refine kX3_152 (pc := 54) C dX3_burnAsLamp_54 (c6_held κ.2.1 E S im_45 _ (nI 0) (nI 9999)) (by decide) (Nat.le_of_ble_eq_true rfl) (Nat.le_refl _) (Nat.le_refl _) (fun v_54 S_54 im_54 h_54 => ?_)
    obtain ⟨rfl, rfl, rfl⟩ := h_54
    exact z_iret (pc := 57) C ρ dX3_burnAsLamp_57 (⟨_, rfl, by rw [s_plain_t (by have := hT.1.1; omega) hc hx.2.1, held_within _ (by decide)]; rfl, rfl, fun a ha => hst a (by omega)⟩)
