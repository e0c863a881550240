/-! A NIGHT -/
def s_end (f : Nat → Int32) (n7 l0 : Nat) (mi : Int32) : Int32 := let e0 := mi + s_burns f n7 l0; let e1 := if e0 ≤ f 5 then e0 else f 5; if mi ≤ e1 then e1 else mi
def s_lights (f : Nat → Int32) (n7 l0 : Nat) (mi : Int32) : Nat → Int32 := upd (upd (upd (upd f (8 + 7 * l0 + 6) (f (8 + 7 * l0 + 6) + (if f (8 + 7 * l0 + 2) = 0 ∧ ¬ f (8 + 7 * l0 + 0) = nI 5 then nI 1 else nI 0))) (8 + 7 * l0 + 5) mi) (8 + 7 * l0 + 4) (s_end f n7 l0 mi)) (8 + 7 * l0 + 2) (f (8 + 7 * l0 + 2) - s_drink (f (8 + 7 * l0 + 0)) (f (8 + 7 * l0 + 2)) (s_end f n7 l0 mi - mi))
def s_run (f : Nat → Int32) (p : Nat → Nat) (n7 : Nat) (idle : Int32) : Nat → (Nat → Int32) × Int32 × Int32
  | 0 => (f, nI 0, nI 0)
  | i + 1 => if nI (p i) = idle then s_run f p n7 idle i else (s_lights (upd (s_run f p n7 idle i).1 6 ((s_run f p n7 idle i).1 6 + (s_apart ((s_run f p n7 idle i).1 (8 + 7 * p i + 1)) (s_run f p n7 idle i).2.2 + nI 1))) n7 (p i) ((s_run f p n7 idle i).2.1 + (s_apart ((s_run f p n7 idle i).1 (8 + 7 * p i + 1)) (s_run f p n7 idle i).2.2 + nI 1)), (s_run f p n7 idle i).2.1 + (s_apart ((s_run f p n7 idle i).1 (8 + 7 * p i + 1)) (s_run f p n7 idle i).2.2 + nI 1), (s_run f p n7 idle i).1 (8 + 7 * p i + 1))
def s_pour (f : Nat → Int32) (idle : Int32) : Nat → Nat → Int32
  | 0 => f
  | l0 + 1 => upd (s_pour f idle l0) (8 + 7 * l0 + 2) (s_within ((s_pour f idle l0) (8 + 7 * l0 + 2) + (if nI l0 = idle then nI 0 else (s_pour f idle l0) (8 + 7 * l0 + 3))) (nI 0) (nI 999))
def s_dusk (f : Nat → Int32) : Nat → Int32 := upd (upd f 0 (s_z (f 0))) 4 (s_sh (s_z (f 0)) - s_sh (s_z (f 0)) / nI 10 * nI 10)
def s_night (f : Nat → Int32) (n n7 : Nat) (idle : Int32) : Nat → Int32 := let h := s_pour (s_run (s_dusk f) (ordA (s_dusk f) n) n7 idle n).1 idle n; upd h 2 (h 2 + nI 1)
/-- as many lamps and texts, the same texts -/
def sam (f g : Nat → Int32) : Prop := g 1 = f 1 ∧ g 7 = f 7 ∧ ∀ k, 78 ≤ k → g k = f k
theorem sam.rf {f : Nat → Int32} : sam f f := ⟨rfl, rfl, fun _ _ => rfl⟩
theorem sam.tr {f g h : Nat → Int32} (a : sam f g) (b : sam g h) : sam f h := ⟨b.1.trans a.1, b.2.1.trans a.2.1, fun k hk => (b.2.2 k hk).trans (a.2.2 k hk)⟩
theorem sam.upd {f : Nat → Int32} {k : Nat} {x : Int32} (h1 : k ≠ 1) (h7 : k ≠ 7) (h : k < 78) : sam f (upd f k x) := ⟨upd_n _ _ (Ne.symm h1), upd_n _ _ (Ne.symm h7), fun j hj => upd_n _ _ (by omega)⟩
theorem TxOk.sam {f g : Nat → Int32} {t key m : Nat} (h : TxOk f t key m) (s : sam f g) : TxOk g t key m := by
  have e : s_row g t = s_row f t := funext fun k => s.2.2 _ (by omega)
  exact ⟨h.1, by rw [s.2.2 _ (by omega)]; exact h.2.1, by rw [e]; exact h.2.2⟩
theorem MOk.sam {f g : Nat → Int32} {n n7 : Nat} (h : MOk f n n7) (s : sam f g) : MOk g n n7 := ⟨⟨h.1.1, by rw [s.1]; exact h.1.2⟩, ⟨h.2.1.1, by rw [s.2.1]; exact h.2.1.2⟩, fun t ht => by obtain ⟨key, m, hT⟩ := h.2.2 t ht; exact ⟨key, m, hT.sam s⟩⟩
theorem sam_lights {f : Nat → Int32} {n7 l0 : Nat} {mi : Int32} (h : l0 < 10) : sam f (s_lights f n7 l0 mi) := by
  unfold s_lights
  exact ((((sam.upd (by omega) (by omega) (by omega)).tr (sam.upd (by omega) (by omega) (by omega))).tr (sam.upd (by omega) (by omega) (by omega))).tr (sam.upd (by omega) (by omega) (by omega)))
theorem sam_run {f : Nat → Int32} {p : Nat → Nat} {n7 n : Nat} {idle : Int32} (hp : ∀ i, i < n → p i < 10) : ∀ i, i ≤ n → sam f (s_run f p n7 idle i).1 := by
  intro i
  induction i with
  | zero => intro _; exact sam.rf
  | succ i ih =>
    intro hi
    rw [s_run]
    split
    · exact ih (by omega)
    · exact (ih (by omega)).tr ((sam.upd (by decide) (by decide) (by decide)).tr (sam_lights (hp i (by omega))))
theorem sam_pour {f : Nat → Int32} {idle : Int32} : ∀ l0, l0 ≤ 10 → sam f (s_pour f idle l0) := by
  intro l0
  induction l0 with
  | zero => intro _; exact sam.rf
  | succ l0 ih => intro h; rw [s_pour]; exact (ih (by omega)).tr (sam.upd (by omega) (by omega) (by omega))
theorem sam_dusk {f : Nat → Int32} : sam f (s_dusk f) := (sam.upd (by decide) (by decide) (by decide)).tr (sam.upd (by decide) (by decide) (by decide))
theorem sam_night {f : Nat → Int32} {n n7 : Nat} {idle : Int32} (hn : n ≤ 10) : sam f (s_night f n n7 idle) := by
  unfold s_night
  exact ((sam_dusk.tr (sam_run (n := n) (fun i hi => Nat.lt_of_lt_of_le (ordA_lt hi) hn) n (Nat.le_refl _))).tr (sam_pour n hn)).tr (sam.upd (by decide) (by decide) (by decide))
/-- nothing has changed but the numbers and the rows for working out -/
def frL (M : Nat) (im im' : Mem) : Prop := ∀ a, a ≠ M + 1 → a ≠ M + 15 → a ≠ M + 16 → im' a = im a
def frN (M : Nat) (im im' : Mem) : Prop := ∀ a, a ≠ M + 1 → a ≠ M + 4 → a ≠ M + 5 → a ≠ M + 15 → a ≠ M + 16 → im' a = im a
theorem frN.rf {M : Nat} {im : Mem} : frN M im im := fun _ _ _ _ _ _ => rfl
theorem frN.tr {M : Nat} {a b c : Mem} (h1 : frN M a b) (h2 : frN M b c) : frN M a c := fun q x1 x2 x3 x4 x5 => (h2 q x1 x2 x3 x4 x5).trans (h1 q x1 x2 x3 x4 x5)
set_option maxRecDepth 100000 in
set_option maxHeartbeats 4000000 in
theorem m7_lights (l : Launch) (E : Ex) (S : Sx) (im : Mem) (M : Nat) (hM : ML S M) (n n7 l0 : Nat) (hl : l0 < n) (mi : Int32) (f : Nat → Int32) (hf0 : im (M + 1) = f) (hok : MOk f n n7) : Mt l E yX7_lights cX7_lights 5 none 4 0 0 [.ref M, .int (nI l0), .int mi] S im (pV (fun S' im' => S = S' ∧ im' (M + 1) = s_lights f n7 l0 mi ∧ frL M im im')) := by
  refine Mt.of (by decide +kernel) rfl rfl (Nat.le_of_ble_eq_true rfl) ?_
  intro κ hκ C ρ
  subst hκ
  show V E κ 5 0 0 0 [some (.ref M), some (.int (nI l0)), some (.int mi), none, none] [] S im
  have hn10 := hok.1.1
  refine z_iload_n (pc := 0) C dX7_lights_0 rfl ?_
  refine z_aload_n (pc := 1) C dX7_lights_1 rfl ?_
  refine z_iload_n (pc := 2) C dX7_lights_2 rfl ?_
  refine kX7_125 (pc := 3) C dX7_lights_3 (m7_burnsOf κ.2.1 E S im M hM n n7 l0 (by omega) (by rw [hf0]; exact hok)) (ml_K hM) (by decide) (Nat.le_of_ble_eq_true rfl) (Nat.le_refl _) (Nat.le_refl _) (fun v_3 S_3 im_3 h_3 => ?_)
  obtain ⟨rfl, rfl, hx⟩ := h_3
  have h1 : im_3 (M + 1) = f := by rw [hx _ (by omega) (by omega)]; exact hf0
  rw [hf0]
  refine z_iadd (pc := 6) C dX7_lights_6 ?_
  refine z_istore_n (pc := 7) C dX7_lights_7 (by decide) rfl ?_
  refine z_iload_n (pc := 8) C dX7_lights_8 rfl ?_
  refine z_aload_n (pc := 9) C dX7_lights_9 rfl ?_
  refine gX7_9 (pc := 10) C dX7_lights_10 (ml_K hM) (ml_r0 hM) ?_
  refine z_iconstN (pc := 13) C 5 dX7_lights_13 ?_
  refine z_iald (pc := 14) C dX7_lights_14 (ml_a1 hM) (ml_n1 hM) (by omega) (by decide) ?_
  refine z_eqi (y := f 5) (by rw [h1]) ?_
  have j_28 : ∀ e1 : Int32, e1 = (if mi + s_burns f n7 l0 ≤ f 5 then mi + s_burns f n7 l0 else f 5) → V E κ 5 0 0 28 [some (.ref M), some (.int (nI l0)), some (.int mi), some (.int (mi + (s_burns f n7 l0))), none] [.int e1] S im_3 := by
    intro e1 ee1
    refine z_istore_n (pc := 28) C dX7_lights_28 (by decide) rfl ?_
    refine z_iload_n (pc := 29) C dX7_lights_29 rfl ?_
    refine z_iload_n (pc := 30) C dX7_lights_30 rfl ?_
    have j_39 : ∀ e : Int32, e = (s_end f n7 l0 mi) → V E κ 5 0 0 39 [some (.ref M), some (.int (nI l0)), some (.int mi), some (.int e1), none] [.int e] S im_3 := by
      intro e ee
      refine z_istore_n (pc := 39) C dX7_lights_39 (by decide) rfl ?_
      refine z_aload_n (pc := 40) C dX7_lights_40 rfl ?_
      refine z_iload_n (pc := 41) C dX7_lights_41 rfl ?_
      refine z_iconstN (pc := 42) C 2 dX7_lights_42 ?_
      refine kX7_106 (pc := 43) C dX7_lights_43 (m7_of κ.2.1 E S im_3 M hM l0 2 (by omega) (by decide)) (ml_K hM) (by decide) (Nat.le_of_ble_eq_true rfl) (Nat.le_refl _) (Nat.le_refl _) (fun v_43 S_43 im_43 h_43 => ?_)
      obtain ⟨rfl, rfl, rfl⟩ := h_43
      refine z_eqi (y := f (8 + 7 * l0 + 2)) (by rw [h1]) ?_
      have j_64 : ∀ x64 : Int32, x64 = (if f (8 + 7 * l0 + 2) = 0 ∧ ¬ f (8 + 7 * l0 + 0) = nI 5 then nI 1 else nI 0) → V E κ 5 0 0 64 [some (.ref M), some (.int (nI l0)), some (.int mi), some (.int e), none] [.int x64] S im_3 := by
        intro x64 ex64
        refine z_istore (pc := 64) C dX7_lights_64 (by decide) rfl ?_
        refine z_aload_n (pc := 66) C dX7_lights_66 rfl ?_
        refine z_iload_n (pc := 67) C dX7_lights_67 rfl ?_
        refine z_bipushN (pc := 68) C 6 (by decide) dX7_lights_68 ?_
        refine z_aload_n (pc := 70) C dX7_lights_70 rfl ?_
        refine z_iload_n (pc := 71) C dX7_lights_71 rfl ?_
        refine z_bipushN (pc := 72) C 6 (by decide) dX7_lights_72 ?_
        refine kX7_106 (pc := 74) C dX7_lights_74 (m7_of κ.2.1 E S im_3 M hM l0 6 (by omega) (by decide)) (ml_K hM) (by decide) (Nat.le_of_ble_eq_true rfl) (Nat.le_refl _) (Nat.le_refl _) (fun v_74 S_74 im_74 h_74 => ?_)
        obtain ⟨rfl, rfl, rfl⟩ := h_74
        refine z_eqi (y := f (8 + 7 * l0 + 6)) (by rw [h1]) ?_
        refine z_iload (pc := 77) C dX7_lights_77 rfl ?_
        have j_87 : ∀ x87 : Int32, x87 = (x64) → V E κ 5 0 0 87 [some (.ref M), some (.int (nI l0)), some (.int mi), some (.int e), some (.int x64)] [.int x87, .int (f (8 + 7 * l0 + 6)), .int (nI 6), .int (nI l0), .ref M] S im_3 := by
          intro x87 ex87
          refine z_iadd (pc := 87) C dX7_lights_87 ?_
          refine kX7_96 (pc := 88) C dX7_lights_88 (m7_put κ.2.1 E S im_3 M hM l0 6 (by omega) (by decide) (f (8 + 7 * l0 + 6) + x87)) (ml_K hM) (by decide) (Nat.le_of_ble_eq_true rfl) (Nat.le_refl _) (Nat.le_refl _) (fun S_88 im_88 h_88 => ?_)
          obtain ⟨rfl, rfl⟩ := h_88
          refine z_aload_n (pc := 91) C dX7_lights_91 rfl ?_
          refine z_iload_n (pc := 92) C dX7_lights_92 rfl ?_
          refine z_iconstN (pc := 93) C 5 dX7_lights_93 ?_
          refine z_iload_n (pc := 94) C dX7_lights_94 rfl ?_
          refine kX7_96 (pc := 95) C dX7_lights_95 (m7_put κ.2.1 E S (up2 im_3 (M + 1) (8 + 7 * l0 + 6) (f (8 + 7 * l0 + 6) + x87)) M hM l0 5 (by omega) (by decide) mi) (ml_K hM) (by decide) (Nat.le_of_ble_eq_true rfl) (Nat.le_refl _) (Nat.le_refl _) (fun S_95 im_95 h_95 => ?_)
          obtain ⟨rfl, rfl⟩ := h_95
          refine z_aload_n (pc := 98) C dX7_lights_98 rfl ?_
          refine z_iload_n (pc := 99) C dX7_lights_99 rfl ?_
          refine z_iconstN (pc := 100) C 4 dX7_lights_100 ?_
          refine z_iload_n (pc := 101) C dX7_lights_101 rfl ?_
          refine kX7_96 (pc := 102) C dX7_lights_102 (m7_put κ.2.1 E S (up2 (up2 im_3 (M + 1) (8 + 7 * l0 + 6) (f (8 + 7 * l0 + 6) + x87)) (M + 1) (8 + 7 * l0 + 5) mi) M hM l0 4 (by omega) (by decide) e) (ml_K hM) (by decide) (Nat.le_of_ble_eq_true rfl) (Nat.le_refl _) (Nat.le_refl _) (fun S_102 im_102 h_102 => ?_)
          obtain ⟨rfl, rfl⟩ := h_102
          refine z_aload_n (pc := 105) C dX7_lights_105 rfl ?_
          refine z_iload_n (pc := 106) C dX7_lights_106 rfl ?_
          refine z_iconstN (pc := 107) C 2 dX7_lights_107 ?_
          refine z_aload_n (pc := 108) C dX7_lights_108 rfl ?_
          refine z_iload_n (pc := 109) C dX7_lights_109 rfl ?_
          refine z_iconstN (pc := 110) C 2 dX7_lights_110 ?_
          refine kX7_106 (pc := 111) C dX7_lights_111 (m7_of κ.2.1 E S (up2 (up2 (up2 im_3 (M + 1) (8 + 7 * l0 + 6) (f (8 + 7 * l0 + 6) + x87)) (M + 1) (8 + 7 * l0 + 5) mi) (M + 1) (8 + 7 * l0 + 4) e) M hM l0 2 (by omega) (by decide)) (ml_K hM) (by decide) (Nat.le_of_ble_eq_true rfl) (Nat.le_refl _) (Nat.le_refl _) (fun v_111 S_111 im_111 h_111 => ?_)
          obtain ⟨rfl, rfl, rfl⟩ := h_111
          refine z_eqi (y := f (8 + 7 * l0 + 2)) (by rw [up2_s, upd_n _ _ (by omega), up2_s, upd_n _ _ (by omega), up2_s, upd_n _ _ (by omega), h1]) ?_
          refine z_aload_n (pc := 114) C dX7_lights_114 rfl ?_
          refine z_iload_n (pc := 115) C dX7_lights_115 rfl ?_
          refine z_iload_n (pc := 116) C dX7_lights_116 rfl ?_
          refine z_iload_n (pc := 117) C dX7_lights_117 rfl ?_
          refine z_isub (pc := 118) C dX7_lights_118 ?_
          refine kX7_131 (pc := 119) C dX7_lights_119 (m7_drinksOf κ.2.1 E S (up2 (up2 (up2 im_3 (M + 1) (8 + 7 * l0 + 6) (f (8 + 7 * l0 + 6) + x87)) (M + 1) (8 + 7 * l0 + 5) mi) (M + 1) (8 + 7 * l0 + 4) e) M hM l0 (by omega) (e - mi)) (ml_K hM) (by decide) (Nat.le_of_ble_eq_true rfl) (Nat.le_refl _) (Nat.le_refl _) (fun v_119 S_119 im_119 h_119 => ?_)
          obtain ⟨rfl, rfl, rfl⟩ := h_119
          have q0 : (up2 (up2 (up2 im_3 (M + 1) (8 + 7 * l0 + 6) (f (8 + 7 * l0 + 6) + x87)) (M + 1) (8 + 7 * l0 + 5) mi) (M + 1) (8 + 7 * l0 + 4) e) (M + 1) (8 + 7 * l0 + 0) = f (8 + 7 * l0 + 0) := by rw [up2_s, upd_n _ _ (by omega), up2_s, upd_n _ _ (by omega), up2_s, upd_n _ _ (by omega), h1]
          have q2 : (up2 (up2 (up2 im_3 (M + 1) (8 + 7 * l0 + 6) (f (8 + 7 * l0 + 6) + x87)) (M + 1) (8 + 7 * l0 + 5) mi) (M + 1) (8 + 7 * l0 + 4) e) (M + 1) (8 + 7 * l0 + 2) = f (8 + 7 * l0 + 2) := by rw [up2_s, upd_n _ _ (by omega), up2_s, upd_n _ _ (by omega), up2_s, upd_n _ _ (by omega), h1]
          refine z_eqi (y := s_drink (f (8 + 7 * l0 + 0)) (f (8 + 7 * l0 + 2)) (e - mi)) (by rw [q0, q2]) ?_
          refine z_isub (pc := 122) C dX7_lights_122 ?_
          refine kX7_96 (pc := 123) C dX7_lights_123 (m7_put κ.2.1 E S (up2 (up2 (up2 im_3 (M + 1) (8 + 7 * l0 + 6) (f (8 + 7 * l0 + 6) + x87)) (M + 1) (8 + 7 * l0 + 5) mi) (M + 1) (8 + 7 * l0 + 4) e) M hM l0 2 (by omega) (by decide) (f (8 + 7 * l0 + 2) - s_drink (f (8 + 7 * l0 + 0)) (f (8 + 7 * l0 + 2)) (e - mi))) (ml_K hM) (by decide) (Nat.le_of_ble_eq_true rfl) (Nat.le_refl _) (Nat.le_refl _) (fun S_123 im_123 h_123 => ?_)
          obtain ⟨rfl, rfl⟩ := h_123
          exact z_vret (pc := 126) C ρ dX7_lights_126 (⟨rfl, rfl, by rw [up2_s, up2_s, up2_s, up2_s, h1, ex87, ex64, ee]; rfl, fun a q1 q2 q3 => by rw [up2_n _ _ _ q1, up2_n _ _ _ q1, up2_n _ _ _ q1, up2_n _ _ _ q1]; exact hx a q2 q3⟩)
        refine z_if_eq (pc := 79) C 86 dX7_lights_79 (by decide) (fun c_79 => ?_) (fun c_79 => ?_)
        · 
          refine z_iconstN (pc := 86) C 0 dX7_lights_86 ?_
          exact j_87 _ (by first | exact nI_0.trans c_79.symm | (by_cases hq : f (8 + 7 * l0 + 2) = 0 ∧ ¬ f (8 + 7 * l0 + 0) = nI 5; exact (ex64.trans (if_pos hq)).symm; exact absurd (ex64.trans ((if_neg hq).trans nI_0)) c_79))
        · 
          refine z_iconstN (pc := 82) C 1 dX7_lights_82 ?_
          refine z_goto (pc := 83) C 87 dX7_lights_83 (by decide) ?_
          exact j_87 _ (by first | exact nI_0.trans c_79.symm | (by_cases hq : f (8 + 7 * l0 + 2) = 0 ∧ ¬ f (8 + 7 * l0 + 0) = nI 5; exact (ex64.trans (if_pos hq)).symm; exact absurd (ex64.trans ((if_neg hq).trans nI_0)) c_79))
      refine z_if_ne (pc := 46) C 63 dX7_lights_46 (by decide) (fun c_46 => ?_) (fun c_46 => ?_)
      · 
        refine z_iconstN (pc := 63) C 0 dX7_lights_63 ?_
        exact j_64 _ (by first | exact (if_pos ⟨c_46, c_56⟩).symm | exact (if_neg (fun h => c_46 h.1)).symm | exact (if_neg (fun h => h.2 c_56)).symm)
      · 
        refine z_aload_n (pc := 49) C dX7_lights_49 rfl ?_
        refine z_iload_n (pc := 50) C dX7_lights_50 rfl ?_
        refine z_iconstN (pc := 51) C 0 dX7_lights_51 ?_
        refine kX7_106 (pc := 52) C dX7_lights_52 (m7_of κ.2.1 E S im_3 M hM l0 0 (by omega) (by decide)) (ml_K hM) (by decide) (Nat.le_of_ble_eq_true rfl) (Nat.le_refl _) (Nat.le_refl _) (fun v_52 S_52 im_52 h_52 => ?_)
        obtain ⟨rfl, rfl, rfl⟩ := h_52
        refine z_eqi (y := f (8 + 7 * l0 + 0)) (by rw [h1]) ?_
        refine z_iconstN (pc := 55) C 5 dX7_lights_55 ?_
        refine z_icmp_eq (pc := 56) C 63 dX7_lights_56 (by decide) (fun c_56 => ?_) (fun c_56 => ?_)
        · 
          refine z_iconstN (pc := 63) C 0 dX7_lights_63 ?_
          exact j_64 _ (by first | exact (if_pos ⟨c_46, c_56⟩).symm | exact (if_neg (fun h => c_46 h.1)).symm | exact (if_neg (fun h => h.2 c_56)).symm)
        · 
          refine z_iconstN (pc := 59) C 1 dX7_lights_59 ?_
          refine z_goto (pc := 60) C 64 dX7_lights_60 (by decide) ?_
          exact j_64 _ (by first | exact (if_pos ⟨c_46, c_56⟩).symm | exact (if_neg (fun h => c_46 h.1)).symm | exact (if_neg (fun h => h.2 c_56)).symm)
    refine z_icmp_ge (pc := 31) C 38 dX7_lights_31 (by decide) (fun c_31 => ?_) (fun c_31 => ?_)
    · 
      refine z_iload_n (pc := 38) C dX7_lights_38 rfl ?_
      exact j_39 _ (by simp only [s_end, ← ee1, if_pos c_31])
    · 
      refine z_iload_n (pc := 34) C dX7_lights_34 rfl ?_
      refine z_goto (pc := 35) C 39 dX7_lights_35 (by decide) ?_
      exact j_39 _ (by simp only [s_end, ← ee1, if_neg c_31])
  refine z_icmp_le (pc := 15) C 27 dX7_lights_15 (by decide) (fun c_15 => ?_) (fun c_15 => ?_)
  · 
    refine z_iload_n (pc := 27) C dX7_lights_27 rfl ?_
    exact j_28 _ (by simp only [if_pos c_15])
  · 
    refine z_aload_n (pc := 18) C dX7_lights_18 rfl ?_
    refine gX7_9 (pc := 19) C dX7_lights_19 (ml_K hM) (ml_r0 hM) ?_
    refine z_iconstN (pc := 22) C 5 dX7_lights_22 ?_
    refine z_iald (pc := 23) C dX7_lights_23 (ml_a1 hM) (ml_n1 hM) (by omega) (by decide) ?_
    refine z_eqi (y := f 5) (by rw [h1]) ?_
    refine z_goto (pc := 24) C 28 dX7_lights_24 (by decide) ?_
    exact j_28 _ (by simp only [if_neg c_15])
set_option maxRecDepth 100000 in
set_option maxHeartbeats 4000000 in
theorem m7_night (l : Launch) (E : Ex) (S : Sx) (im : Mem) (M : Nat) (hM : ML S M) (n n7 : Nat) (f : Nat → Int32) (hf0 : im (M + 1) = f) (idle : Int32) (hidle : im M 4 = idle) (hok : MOk f n n7) : Mt l E yX7_night cX7_night 5 none 5 0 0 [.ref M] S im (pV (fun S' im' => S = S' ∧ im' (M + 1) = s_night f n n7 idle ∧ frN M im im')) := by
  refine Mt.of (by decide +kernel) rfl rfl (Nat.le_of_ble_eq_true rfl) ?_
  intro κ hκ C ρ
  subst hκ
  show V E κ 5 0 0 0 [some (.ref M), none, none, none, none] [] S im
  have hn10 := hok.1.1
  have hgk1 : MOk (s_dusk f) n n7 := hok.sam sam_dusk
  have hsam : ∀ i, i ≤ n → sam (s_dusk f) (s_run (s_dusk f) (ordA (s_dusk f) n) n7 idle i).1 := sam_run (fun i hi => Nat.lt_of_lt_of_le (ordA_lt hi) hn10)
  obtain ⟨g, hg⟩ : ∃ g, g = (s_run (s_dusk f) (ordA (s_dusk f) n) n7 idle n).1 := ⟨_, rfl⟩
  have loopP : ∀ (r l0 : Nat) (im' : Mem) (x1 x2 : Int32) (x4 : Option Value), l0 + r = n → im' (M + 1) = s_pour g idle l0 → frN M im im' → V E κ 5 0 0 113 [some (.ref M), some (.int x1), some (.int x2), some (.int (nI l0)), x4] [] S im' := by
    intro r
    induction r with
    | zero =>
      intro l0 im' x1 x2 x4 hl hm hfr
      have hl0n : l0 = n := by omega
      have hgk : MOk (s_pour g idle l0) n n7 := by rw [hg]; exact (hgk1.sam (hsam n (Nat.le_refl _))).sam (sam_pour l0 (by omega))
      refine z_iload_n (pc := 113) C dX7_night_113 rfl ?_
      refine z_aload_n (pc := 114) C dX7_night_114 rfl ?_
      refine gX7_9 (pc := 115) C dX7_night_115 (ml_K hM) (ml_r0 hM) ?_
      refine z_iconstN (pc := 118) C 1 dX7_night_118 ?_
      refine z_iald (pc := 119) C dX7_night_119 (ml_a1 hM) (ml_n1 hM) (by omega) (by decide) ?_
      refine z_eqi (y := nI n) (by rw [hm]; exact hgk.1.2) ?_
      refine z_icmp_geT (pc := 120) C 167 dX7_night_120 (by decide) (nI_le (by omega) (by omega)) ?_
      refine z_aload_n (pc := 167) C dX7_night_167 rfl ?_
      refine gX7_9 (pc := 168) C dX7_night_168 (ml_K hM) (ml_r0 hM) ?_
      refine z_iconstN (pc := 171) C 2 dX7_night_171 ?_
      refine z_dup2 (pc := 172) C dX7_night_172 rfl rfl ?_
      refine z_iald (pc := 173) C dX7_night_173 (ml_a1 hM) (ml_n1 hM) (by omega) (by decide) ?_
      refine z_iconstN (pc := 174) C 1 dX7_night_174 ?_
      refine z_iadd (pc := 175) C dX7_night_175 ?_
      refine z_iast (pc := 176) C dX7_night_176 (ml_a1 hM) (ml_n1 hM) (by omega) (by decide) ?_
      exact z_vret (pc := 177) C ρ dX7_night_177 (⟨rfl, rfl, by rw [up2_s, hm, hl0n, hg]; rfl, fun a q1 q2 q3 q4 q5 => by rw [up2_n _ _ _ q1]; exact hfr a q1 q2 q3 q4 q5⟩)
    | succ r ih =>
      intro l0 im' x1 x2 x4 hl hm hfr
      have hgk : MOk (s_pour g idle l0) n n7 := by rw [hg]; exact (hgk1.sam (hsam n (Nat.le_refl _))).sam (sam_pour l0 (by omega))
      refine z_iload_n (pc := 113) C dX7_night_113 rfl ?_
      refine z_aload_n (pc := 114) C dX7_night_114 rfl ?_
      refine gX7_9 (pc := 115) C dX7_night_115 (ml_K hM) (ml_r0 hM) ?_
      refine z_iconstN (pc := 118) C 1 dX7_night_118 ?_
      refine z_iald (pc := 119) C dX7_night_119 (ml_a1 hM) (ml_n1 hM) (by omega) (by decide) ?_
      refine z_eqi (y := nI n) (by rw [hm]; exact hgk.1.2) ?_
      refine z_icmp_geF (pc := 120) C 167 dX7_night_120 (by decide) (nI_ge (by omega) (by omega)) ?_
      refine z_aload_n (pc := 123) C dX7_night_123 rfl ?_
      refine z_iload_n (pc := 124) C dX7_night_124 rfl ?_
      refine z_iconstN (pc := 125) C 2 dX7_night_125 ?_
      refine z_aload_n (pc := 126) C dX7_night_126 rfl ?_
      refine z_iload_n (pc := 127) C dX7_night_127 rfl ?_
      refine z_iconstN (pc := 128) C 2 dX7_night_128 ?_
      refine kX7_106 (pc := 129) C dX7_night_129 (m7_of κ.2.1 E S im' M hM l0 2 (by omega) (by decide)) (ml_K hM) (by decide) (Nat.le_of_ble_eq_true rfl) (Nat.le_refl _) (Nat.le_refl _) (fun v_129 S_129 im_129 h_129 => ?_)
      obtain ⟨rfl, rfl, rfl⟩ := h_129
      refine z_eqi (y := (s_pour g idle l0) (8 + 7 * l0 + 2)) (by rw [hm]) ?_
      refine z_iload_n (pc := 132) C dX7_night_132 rfl ?_
      refine z_aload_n (pc := 133) C dX7_night_133 rfl ?_
      refine gX7_19 (pc := 134) C dX7_night_134 (ml_K hM) ?_
      refine z_eqi (y := idle) (by rw [hfr _ (by omega) (by omega) (by omega) (by omega) (by omega)]; exact hidle) ?_
      have j_150 : ∀ x150 : Int32, x150 = (if nI l0 = idle then nI 0 else (s_pour g idle l0) (8 + 7 * l0 + 3)) → V E κ 5 0 0 150 [some (.ref M), some (.int x1), some (.int x2), some (.int (nI l0)), x4] [.int x150, .int ((s_pour g idle l0) (8 + 7 * l0 + 2)), .int (nI 2), .int (nI l0), .ref M] S im' := by
        intro x150 ex150
        refine z_iadd (pc := 150) C dX7_night_150 ?_
        refine z_iconstN (pc := 151) C 0 dX7_night_151 ?_
        refine z_sipush (v := nI 999) (pc := 152) C dX7_night_152 (by decide +kernel) ?_
        refine kX7_117 (pc := 155) C dX7_night_155 (m7_within κ.2.1 E S im' ((s_pour g idle l0) (8 + 7 * l0 + 2) + x150) (nI 0) (nI 999)) (by decide) (Nat.le_of_ble_eq_true rfl) (Nat.le_refl _) (Nat.le_refl _) (fun v_155 S_155 im_155 h_155 => ?_)
        obtain ⟨rfl, rfl, rfl⟩ := h_155
        refine kX7_96 (pc := 158) C dX7_night_158 (m7_put κ.2.1 E S im' M hM l0 2 (by omega) (by decide) (s_within ((s_pour g idle l0) (8 + 7 * l0 + 2) + x150) (nI 0) (nI 999))) (ml_K hM) (by decide) (Nat.le_of_ble_eq_true rfl) (Nat.le_refl _) (Nat.le_refl _) (fun S_158 im_158 h_158 => ?_)
        obtain ⟨rfl, rfl⟩ := h_158
        refine z_iincN (pc := 161) C 1 dX7_night_161 rfl (by decide) rfl ?_
        refine z_goto (pc := 164) C 113 dX7_night_164 (by decide) ?_
        refine ih (l0 + 1) _ _ _ _ (by omega) ?_ (fun a q1 q2 q3 q4 q5 => by rw [up2_n _ _ _ q1]; exact hfr a q1 q2 q3 q4 q5)
        rw [up2_s, hm, s_pour, ex150]
      refine z_icmp_ne (pc := 137) C 144 dX7_night_137 (by decide) (fun c_137 => ?_) (fun c_137 => ?_)
      · 
        refine z_aload_n (pc := 144) C dX7_night_144 rfl ?_
        refine z_iload_n (pc := 145) C dX7_night_145 rfl ?_
        refine z_iconstN (pc := 146) C 3 dX7_night_146 ?_
        refine kX7_106 (pc := 147) C dX7_night_147 (m7_of κ.2.1 E S im' M hM l0 3 (by omega) (by decide)) (ml_K hM) (by decide) (Nat.le_of_ble_eq_true rfl) (Nat.le_refl _) (Nat.le_refl _) (fun v_147 S_147 im_147 h_147 => ?_)
        obtain ⟨rfl, rfl, rfl⟩ := h_147
        exact j_150 _ (by simp only [if_neg c_137, hm])
      · 
        refine z_iconstN (pc := 140) C 0 dX7_night_140 ?_
        refine z_goto (pc := 141) C 150 dX7_night_141 (by decide) ?_
        exact j_150 _ (by simp only [if_pos c_137])
  have loopW : ∀ (r i : Nat) (im' : Mem) (mi at0 : Int32) (x4 : Option Value), i + r = n → im' (M + 1) = (s_run (s_dusk f) (ordA (s_dusk f) n) n7 idle i).1 → mi = (s_run (s_dusk f) (ordA (s_dusk f) n) n7 idle i).2.1 → at0 = (s_run (s_dusk f) (ordA (s_dusk f) n) n7 idle i).2.2 → (∀ j, j < n → im' (M + 4) j = nI (ordA (s_dusk f) n j)) → frN M im im' → V E κ 5 0 0 23 [some (.ref M), some (.int mi), some (.int at0), some (.int (nI i)), x4] [] S im' := by
    intro r
    induction r with
    | zero =>
      intro i im' mi at0 x4 hi hm hmi hat hrow hfr
      have hin : i = n := by omega
      have hgk : MOk (s_run (s_dusk f) (ordA (s_dusk f) n) n7 idle i).1 n n7 := hgk1.sam (hsam i (by omega))
      refine z_iload_n (pc := 23) C dX7_night_23 rfl ?_
      refine z_aload_n (pc := 24) C dX7_night_24 rfl ?_
      refine gX7_9 (pc := 25) C dX7_night_25 (ml_K hM) (ml_r0 hM) ?_
      refine z_iconstN (pc := 28) C 1 dX7_night_28 ?_
      refine z_iald (pc := 29) C dX7_night_29 (ml_a1 hM) (ml_n1 hM) (by omega) (by decide) ?_
      refine z_eqi (y := nI n) (by rw [hm]; exact hgk.1.2) ?_
      refine z_icmp_geT (pc := 30) C 111 dX7_night_30 (by decide) (nI_le (by omega) (by omega)) ?_
      refine z_iconstN (pc := 111) C 0 dX7_night_111 ?_
      refine z_istore_n (pc := 112) C dX7_night_112 (by decide) rfl ?_
      exact loopP n 0 im' _ _ _ (by omega) (by rw [hm, hin, hg]; rfl) hfr
    | succ r ih =>
      intro i im' mi at0 x4 hi hm hmi hat hrow hfr
      have hgk : MOk (s_run (s_dusk f) (ordA (s_dusk f) n) n7 idle i).1 n n7 := hgk1.sam (hsam i (by omega))
      have hpi : ordA (s_dusk f) n i < n := ordA_lt (by omega)
      refine z_iload_n (pc := 23) C dX7_night_23 rfl ?_
      refine z_aload_n (pc := 24) C dX7_night_24 rfl ?_
      refine gX7_9 (pc := 25) C dX7_night_25 (ml_K hM) (ml_r0 hM) ?_
      refine z_iconstN (pc := 28) C 1 dX7_night_28 ?_
      refine z_iald (pc := 29) C dX7_night_29 (ml_a1 hM) (ml_n1 hM) (by omega) (by decide) ?_
      refine z_eqi (y := nI n) (by rw [hm]; exact hgk.1.2) ?_
      refine z_icmp_geF (pc := 30) C 111 dX7_night_30 (by decide) (nI_ge (by omega) (by omega)) ?_
      refine z_aload_n (pc := 33) C dX7_night_33 rfl ?_
      refine gX7_23 (pc := 34) C dX7_night_34 (ml_K hM) (ml_r5 hM) ?_
      refine z_iload_n (pc := 37) C dX7_night_37 rfl ?_
      refine z_iald (pc := 38) C dX7_night_38 (ml_a4 hM) (ml_n4 hM) (by omega) (by decide) ?_
      refine z_eqi (y := nI (ordA (s_dusk f) n i)) (hrow i (by omega)) ?_
      refine z_aload_n (pc := 39) C dX7_night_39 rfl ?_
      refine gX7_19 (pc := 40) C dX7_night_40 (ml_K hM) ?_
      refine z_eqi (y := idle) (by rw [hfr _ (by omega) (by omega) (by omega) (by omega) (by omega)]; exact hidle) ?_
      refine z_icmp_eq (pc := 43) C 105 dX7_night_43 (by decide) (fun c_43 => ?_) (fun c_43 => ?_)
      · 
        refine z_iincN (pc := 105) C 1 dX7_night_105 rfl (by decide) rfl ?_
        refine z_goto (pc := 108) C 23 dX7_night_108 (by decide) ?_
        first
        | (refine ih (i + 1) im' mi at0 _ (by omega) ?_ ?_ ?_ hrow hfr
           · rw [s_run, if_pos c_43]; exact hm
           · rw [s_run, if_pos c_43]; exact hmi
           · rw [s_run, if_pos c_43]; exact hat)
        | (refine ih (i + 1) im_102 _ _ _ (by omega) ?_ ?_ ?_ (fun j hj => ?_) (fun a q1 q2 q3 q4 q5 => ?_)
           · rw [s_run, if_neg c_43, hl1, ← hat, ← hmi]
           · rw [s_run, if_neg c_43, ← hat, ← hmi]
           · rw [s_run, if_neg c_43]
           · rw [hl2 _ (by omega) (by omega) (by omega), up2_n _ _ _ (by omega)]; exact hrow j hj
           · rw [hl2 a q1 q4 q5, up2_n _ _ _ q1]; exact hfr a q1 q2 q3 q4 q5)
      · 
        refine z_aload_n (pc := 46) C dX7_night_46 rfl ?_
        refine z_aload_n (pc := 47) C dX7_night_47 rfl ?_
        refine gX7_23 (pc := 48) C dX7_night_48 (ml_K hM) (ml_r5 hM) ?_
        refine z_iload_n (pc := 51) C dX7_night_51 rfl ?_
        refine z_iald (pc := 52) C dX7_night_52 (ml_a4 hM) (ml_n4 hM) (by omega) (by decide) ?_
        refine z_eqi (y := nI (ordA (s_dusk f) n i)) (hrow i (by omega)) ?_
        refine z_iconstN (pc := 53) C 1 dX7_night_53 ?_
        refine kX7_106 (pc := 54) C dX7_night_54 (m7_of κ.2.1 E S im' M hM (ordA (s_dusk f) n i) 1 (by omega) (by decide)) (ml_K hM) (by decide) (Nat.le_of_ble_eq_true rfl) (Nat.le_refl _) (Nat.le_refl _) (fun v_54 S_54 im_54 h_54 => ?_)
        obtain ⟨rfl, rfl, rfl⟩ := h_54
        refine z_eqi (y := (s_run (s_dusk f) (ordA (s_dusk f) n) n7 idle i).1 (8 + 7 * ordA (s_dusk f) n i + 1)) (by rw [hm]) ?_
        refine z_iload_n (pc := 57) C dX7_night_57 rfl ?_
        refine kX7_156 (pc := 58) C dX7_night_58 (m7_apart κ.2.1 E S im' ((s_run (s_dusk f) (ordA (s_dusk f) n) n7 idle i).1 (8 + 7 * ordA (s_dusk f) n i + 1)) at0) (by decide) (Nat.le_of_ble_eq_true rfl) (Nat.le_refl _) (Nat.le_refl _) (fun v_58 S_58 im_58 h_58 => ?_)
        obtain ⟨rfl, rfl, rfl⟩ := h_58
        refine z_iconstN (pc := 61) C 1 dX7_night_61 ?_
        refine z_iadd (pc := 62) C dX7_night_62 ?_
        refine z_istore (pc := 63) C dX7_night_63 (by decide) rfl ?_
        refine z_aload_n (pc := 65) C dX7_night_65 rfl ?_
        refine z_aload_n (pc := 66) C dX7_night_66 rfl ?_
        refine gX7_23 (pc := 67) C dX7_night_67 (ml_K hM) (ml_r5 hM) ?_
        refine z_iload_n (pc := 70) C dX7_night_70 rfl ?_
        refine z_iald (pc := 71) C dX7_night_71 (ml_a4 hM) (ml_n4 hM) (by omega) (by decide) ?_
        refine z_eqi (y := nI (ordA (s_dusk f) n i)) (hrow i (by omega)) ?_
        refine z_iconstN (pc := 72) C 1 dX7_night_72 ?_
        refine kX7_106 (pc := 73) C dX7_night_73 (m7_of κ.2.1 E S im' M hM (ordA (s_dusk f) n i) 1 (by omega) (by decide)) (ml_K hM) (by decide) (Nat.le_of_ble_eq_true rfl) (Nat.le_refl _) (Nat.le_refl _) (fun v_73 S_73 im_73 h_73 => ?_)
        obtain ⟨rfl, rfl, rfl⟩ := h_73
        refine z_eqi (y := (s_run (s_dusk f) (ordA (s_dusk f) n) n7 idle i).1 (8 + 7 * ordA (s_dusk f) n i + 1)) (by rw [hm]) ?_
        refine z_istore_n (pc := 76) C dX7_night_76 (by decide) rfl ?_
        refine z_iload_n (pc := 77) C dX7_night_77 rfl ?_
        refine z_iload (pc := 78) C dX7_night_78 rfl ?_
        refine z_iadd (pc := 80) C dX7_night_80 ?_
        refine z_istore_n (pc := 81) C dX7_night_81 (by decide) rfl ?_
        refine z_aload_n (pc := 82) C dX7_night_82 rfl ?_
        refine gX7_9 (pc := 83) C dX7_night_83 (ml_K hM) (ml_r0 hM) ?_
        refine z_bipushN (pc := 86) C 6 (by decide) dX7_night_86 ?_
        refine z_dup2 (pc := 88) C dX7_night_88 rfl rfl ?_
        refine z_iald (pc := 89) C dX7_night_89 (ml_a1 hM) (ml_n1 hM) (by decide) (by decide) ?_
        refine z_eqi (y := (s_run (s_dusk f) (ordA (s_dusk f) n) n7 idle i).1 6) (by rw [hm]) ?_
        refine z_iload (pc := 90) C dX7_night_90 rfl ?_
        refine z_iadd (pc := 92) C dX7_night_92 ?_
        refine z_iast (pc := 93) C dX7_night_93 (ml_a1 hM) (ml_n1 hM) (by decide) (by decide) ?_
        refine z_aload_n (pc := 94) C dX7_night_94 rfl ?_
        refine z_aload_n (pc := 95) C dX7_night_95 rfl ?_
        refine gX7_23 (pc := 96) C dX7_night_96 (ml_K hM) (ml_r5 hM) ?_
        refine z_iload_n (pc := 99) C dX7_night_99 rfl ?_
        refine z_iald (pc := 100) C dX7_night_100 (ml_a4 hM) (ml_n4 hM) (by omega) (by decide) ?_
        refine z_eqi (y := nI (ordA (s_dusk f) n i)) (by rw [up2_n _ _ _ (by omega)]; exact hrow i (by omega)) ?_
        refine z_iload_n (pc := 101) C dX7_night_101 rfl ?_
        refine kX7_159 (pc := 102) C dX7_night_102 (m7_lights κ.2.1 E S _ M hM n n7 (ordA (s_dusk f) n i) hpi (mi + (s_apart ((s_run (s_dusk f) (ordA (s_dusk f) n) n7 idle i).1 (8 + 7 * ordA (s_dusk f) n i + 1)) at0 + nI 1)) (upd (s_run (s_dusk f) (ordA (s_dusk f) n) n7 idle i).1 6 ((s_run (s_dusk f) (ordA (s_dusk f) n) n7 idle i).1 6 + (s_apart ((s_run (s_dusk f) (ordA (s_dusk f) n) n7 idle i).1 (8 + 7 * ordA (s_dusk f) n i + 1)) at0 + nI 1))) (by rw [up2_s, hm]) (hgk.sam (sam.upd (by decide) (by decide) (by decide)))) (ml_K hM) (by decide) (Nat.le_of_ble_eq_true rfl) (Nat.le_refl _) (Nat.le_refl _) (fun S_102 im_102 h_102 => ?_)
        obtain ⟨rfl, hl1, hl2⟩ := h_102
        refine z_iincN (pc := 105) C 1 dX7_night_105 rfl (by decide) rfl ?_
        refine z_goto (pc := 108) C 23 dX7_night_108 (by decide) ?_
        first
        | (refine ih (i + 1) im' mi at0 _ (by omega) ?_ ?_ ?_ hrow hfr
           · rw [s_run, if_pos c_43]; exact hm
           · rw [s_run, if_pos c_43]; exact hmi
           · rw [s_run, if_pos c_43]; exact hat)
        | (refine ih (i + 1) im_102 _ _ _ (by omega) ?_ ?_ ?_ (fun j hj => ?_) (fun a q1 q2 q3 q4 q5 => ?_)
           · rw [s_run, if_neg c_43, hl1, ← hat, ← hmi]
           · rw [s_run, if_neg c_43, ← hat, ← hmi]
           · rw [s_run, if_neg c_43]
           · rw [hl2 _ (by omega) (by omega) (by omega), up2_n _ _ _ (by omega)]; exact hrow j hj
           · rw [hl2 a q1 q4 q5, up2_n _ _ _ q1]; exact hfr a q1 q2 q3 q4 q5)
  refine z_aload_n (pc := 0) C dX7_night_0 rfl ?_
  refine gX7_9 (pc := 1) C dX7_night_1 (ml_K hM) (ml_r0 hM) ?_
  refine z_iconstN (pc := 4) C 4 dX7_night_4 ?_
  refine z_aload_n (pc := 5) C dX7_night_5 rfl ?_
  refine kX7_146 (pc := 6) C dX7_night_6 (m7_draw κ.2.1 E S im M hM) (ml_K hM) (by decide) (Nat.le_of_ble_eq_true rfl) (Nat.le_refl _) (Nat.le_refl _) (fun v_6 S_6 im_6 h_6 => ?_)
  rw [hf0] at h_6
  obtain ⟨rfl, rfl, rfl⟩ := h_6
  refine z_bipushN (pc := 9) C 10 (by decide) dX7_night_9 ?_
  refine z_irem (pc := 11) C dX7_night_11 (by decide) ?_
  refine z_iast (pc := 12) C dX7_night_12 (ml_a1 hM) (ml_n1 hM) (by decide) (by decide) ?_
  refine z_aload_n (pc := 13) C dX7_night_13 rfl ?_
  refine kX7_153 (pc := 14) C dX7_night_14 (m7_findOrder κ.2.1 E S _ M hM n n7 (by rw [up2_s, up2_s, hf0]; exact hgk1)) (ml_K hM) (by decide) (Nat.le_of_ble_eq_true rfl) (Nat.le_refl _) (Nat.le_refl _) (fun S_14 im_14 h_14 => ?_)
  obtain ⟨rfl, ho1, ho2⟩ := h_14
  rw [up2_s, up2_s, hf0] at ho1
  refine z_iconstN (pc := 17) C 0 dX7_night_17 ?_
  refine z_istore_n (pc := 18) C dX7_night_18 (by decide) rfl ?_
  refine z_iconstN (pc := 19) C 0 dX7_night_19 ?_
  refine z_istore_n (pc := 20) C dX7_night_20 (by decide) rfl ?_
  refine z_iconstN (pc := 21) C 0 dX7_night_21 ?_
  refine z_istore_n (pc := 22) C dX7_night_22 (by decide) rfl ?_
  exact loopW n 0 im_14 (nI 0) (nI 0) _ (by omega) (by rw [ho2 _ (by omega) (by omega), up2_s, up2_s, hf0]; rfl) rfl rfl ho1 (fun a q1 q2 q3 q4 q5 => by rw [ho2 a q2 q3, up2_n _ _ _ q1, up2_n _ _ _ q1])
