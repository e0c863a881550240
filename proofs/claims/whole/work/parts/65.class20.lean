/-! the class: Street.becomes, addText -/
/-- of the references only the texts' row of the street at q has changed -/
def SX (q : Nat) (S S' : Sx) : Prop := S'.1 = S.1 ∧ S'.2.1 = S.2.1 ∧ S'.2.2.1 = S.2.2.1 ∧ ∀ a, a ≠ q + 3 → S'.2.2.2 a = S.2.2.2 a
theorem SX.rf {q : Nat} {S : Sx} : SX q S S := ⟨rfl, rfl, rfl, fun _ _ => rfl⟩
theorem SX.tr {q : Nat} {a b c : Sx} (h : SX q a b) (g : SX q b c) : SX q a c := ⟨g.1.trans h.1, g.2.1.trans h.2.1, g.2.2.1.trans h.2.2.1, fun x hx => (g.2.2.2 x hx).trans (h.2.2.2 x hx)⟩
theorem SX.up {q : Nat} {a b : Sx} {g : Nat → Option Nat} (h : SX q a b) : SX q a (rS b (q + 3) g) := ⟨h.1, h.2.1, h.2.2.1, fun x hx => by rw [← h.2.2.2 x hx]; exact up_n _ _ hx⟩
theorem SL_X {q p : Nat} {S S' : Sx} (h : SL S p) (x : SX q S S') (h1 : p ≠ q + 3) (h2 : p + 1 ≠ q + 3) : SL S' p := by
  obtain ⟨x1, x2, x3, x4⟩ := x
  unfold SL
  rw [x2, x3, x4 p h1, x4 (p + 1) h2]
  exact h
theorem TXr_X {q X i t m key u : Nat} {S S' : Sx} {im : Mem} {f : Nat → Int32} (h : TXr S im f t (X + 3 * i) m key u) (x : SX q S S') (hq : q + 3 < X) : TXr S' im f t (X + 3 * i) m key u := by
  obtain ⟨x1, x2, x3, x4⟩ := x
  unfold TXr TXL
  rw [x2, x3, x4 _ (by omega)]
  exact h
theorem TR_X {q p X n7 : Nat} {S S' : Sx} {im : Mem} {f : Nat → Int32} (h : TR S im p X f n7) (x : SX q S S') (hq : q + 3 < X) (hpq : p ≠ q) : TR S' im p X f n7 := by
  refine ⟨h.1, fun t ht => ?_, h.2.2⟩
  obtain ⟨i, m, key, u, g1, g2⟩ := h.2.1 t ht
  exact ⟨i, m, key, u, by rw [x.2.2.2 _ (by omega)]; exact g1, TXr_X g2 x hq⟩
theorem ST_X {q p X n n7 : Nat} {S S' : Sx} {im : Mem} {f : Nat → Int32} (h : ST S im p X f n n7) (x : SX q S S') (hq : q + 3 < X) (hpq : p ≠ q) : ST S' im p X f n n7 := ⟨h.1, TR_X h.2.1 x hq hpq, h.2.2⟩
theorem ML_X {q M : Nat} {S S' : Sx} (h : ML S M) (x : SX q S S') (h1 : M ≠ q + 3) : ML S' M := by
  obtain ⟨x1, x2, x3, x4⟩ := x
  unfold ML
  rw [x2, x3, x4 _ h1]
  exact h
theorem TL_X {q p : Nat} {S S' : Sx} (h : TL S p) (x : SX q S S') (h1 : p ≠ q + 3) : TL S' p := by
  obtain ⟨x1, x2, x3, x4⟩ := x
  unfold TL
  rw [x2, x3, x4 _ h1]
  exact h
set_option maxRecDepth 100000 in
set_option maxHeartbeats 4000000 in
theorem c3_becomes (l : Launch) (E : Ex) (S : Sx) (im : Mem) (q : Nat) (hs : SL S q) (p : Nat) (hs2 : SL S p) (hne : q + 15 ≤ p ∨ p + 15 ≤ q) (X : Nat) (f : Nat → Int32) (n n7 : Nat) (hst : ST S im p X f n n7) (hqX : q + 15 ≤ X) (hpX : p + 15 ≤ X) : Mt l E yX3_becomes cX3_becomes 3 none 2 0 0 [.ref q, .ref p] S im (pV (fun S' im' => SX q S S' ∧ ST S' im' q X f n n7 ∧ im' (q + 2) = im (q + 2) ∧ ∀ a, a < q ∨ q + 15 ≤ a → im' a = im a)) := by
  refine Mt.of (by decide +kernel) rfl rfl (Nat.le_of_ble_eq_true rfl) ?_
  intro κ hκ C ρ
  subst hκ
  show V E κ 3 0 0 0 [some (.ref q), some (.ref p), none] [] S im
  have hn10 := hst.1.1.1
  have h14 := hst.2.1.1.1
  have hr2 := hst.1
  have hT2 := hst.2.1
  have hpq : p ≠ q := by omega
  have tail : ∀ (im2 : Mem), SR im2 q f n → im2 (q + 2) = im (q + 2) → (∀ a, a < q ∨ q + 15 ≤ a → im2 a = im a) → V E κ 3 0 0 97 [some (.ref q), some (.ref p), some (.int (nI 0))] [] S im2 := by
    intro im2 hr hl2 hfr
    have h10 : im2 q 10 = nI n7 := by rw [hr.2.1.2.2.2.2.2.2]; exact hT2.1.2.2
    have hfin : ∀ S', SX q S S' → (∀ t, t < n7 → S'.2.2.2 (q + 3) t = S.2.2.2 (p + 3) t) → ST S' (va_up im2 (q + 4) (va_cpy (im2 (p + 4)) (im2 (q + 4)) 0 0 3)) q X f n n7 := fun S' hx href => by
      refine ⟨SR_fr hr (up_n _ _ (by omega)) (fun l hl => up_n _ _ (by omega)), ⟨⟨h14, by rw [up_n _ _ (by omega)]; exact h10, hT2.1.2.2⟩, fun t ht => ?_, fun k hk => ?_⟩, hst.2.2⟩
      · obtain ⟨i, m, key, u, g1, g2⟩ := hT2.2.1 t ht
        exact ⟨i, m, key, u, by rw [href t ht]; exact g1, TXr_X (TXr_mv g2 (fun _ _ => rfl) (fun a h1 h2 => by rw [up_n _ _ (by omega)]; exact hfr a (by omega))) hx (by omega)⟩
      · rw [up_s, va_cpy, if_pos (by omega), Nat.zero_add, Nat.sub_zero, hfr _ (by omega)]
        exact hT2.2.2 k hk
    have loop2 : ∀ (r i : Nat) (S' : Sx), i + r = n7 → SX q S S' → (∀ t, t < i → S'.2.2.2 (q + 3) t = S.2.2.2 (p + 3) t) → V E κ 3 0 0 97 [some (.ref q), some (.ref p), some (.int (nI i))] [] S' im2 := by
      intro r
      induction r with
      | zero =>
        intro i S' hi hx href
        have hs' := SL_X hs hx (by omega) (by omega)
        have hs2' := SL_X hs2 hx (by omega) (by omega)
        refine z_iload_n (pc := 97) C dX3_becomes_97 rfl ?_
        refine z_aload_n (pc := 98) C dX3_becomes_98 rfl ?_
        refine gX3_58 (pc := 99) C dX3_becomes_99 (sl_K hs') ?_
        refine z_eqi (y := nI n7) (h10) ?_
        refine z_icmp_geT (pc := 102) C 123 dX3_becomes_102 (by decide) (nI_le (by omega) (by omega)) ?_
        refine z_aload_n (pc := 123) C dX3_becomes_123 rfl ?_
        refine gX3_35 (pc := 124) C dX3_becomes_124 (sl_K hs2') (sl_r11 hs2') ?_
        refine z_iconstN (pc := 127) C 0 dX3_becomes_127 ?_
        refine z_aload_n (pc := 128) C dX3_becomes_128 rfl ?_
        refine gX3_35 (pc := 129) C dX3_becomes_129 (sl_K hs') (sl_r11 hs') ?_
        refine z_iconstN (pc := 132) C 0 dX3_becomes_132 ?_
        refine z_iconstN (pc := 133) C 3 dX3_becomes_133 ?_
        refine z_copyi (pc := 134) C dX3_becomes_134 wm_X3_61 (sl_a4 hs2') (sl_n4 hs2') (sl_a4 hs') (sl_n4 hs') (by decide) (by decide) (by decide) (by decide) (by decide) (Nat.le_of_ble_eq_true rfl) ?_
        exact z_vret (pc := 137) C ρ dX3_becomes_137 (⟨rfl, hx, hfin S' hx (fun t ht => href t (by omega)), (up_n _ _ (by omega)).trans hl2, fun a ha => (up_n _ _ (by omega)).trans (hfr a ha)⟩)
      | succ r ih =>
        intro i S' hi hx href
        have hs' := SL_X hs hx (by omega) (by omega)
        have hs2' := SL_X hs2 hx (by omega) (by omega)
        obtain ⟨j, m, key, u, hy, htx⟩ := hT2.2.1 i (by omega)
        refine z_iload_n (pc := 97) C dX3_becomes_97 rfl ?_
        refine z_aload_n (pc := 98) C dX3_becomes_98 rfl ?_
        refine gX3_58 (pc := 99) C dX3_becomes_99 (sl_K hs') ?_
        refine z_eqi (y := nI n7) (h10) ?_
        refine z_icmp_geF (pc := 102) C 123 dX3_becomes_102 (by decide) (nI_ge (by omega) (by omega)) ?_
        refine z_aload_n (pc := 105) C dX3_becomes_105 rfl ?_
        refine gX3_30 (pc := 106) C dX3_becomes_106 (sl_K hs') (sl_r9 hs') ?_
        refine z_iload_n (pc := 109) C dX3_becomes_109 rfl ?_
        refine z_aload_n (pc := 110) C dX3_becomes_110 rfl ?_
        refine gX3_30 (pc := 111) C dX3_becomes_111 (sl_K hs2') (sl_r9 hs2') ?_
        refine z_iload_n (pc := 114) C dX3_becomes_114 rfl ?_
        refine z_aald (pc := 115) C dX3_becomes_115 (sl_a3 hs2') (by decide) (sl_n3 hs2') (by omega) (by decide) (by rw [hx.2.2.2 _ (by omega)]; exact hy) ?_
        refine z_aast (pc := 116) C dX3_becomes_116 (sl_a3 hs') (by decide) (sl_n3 hs') (by omega) (by decide) (by rw [if_pos rfl, hx.2.1]; exact htx.1.2.2.1) ?_
        refine z_iincN (pc := 117) C 1 dX3_becomes_117 rfl (by decide) rfl ?_
        refine z_goto (pc := 120) C 97 dX3_becomes_120 (by decide) ?_
        refine ih (i + 1) _ (by omega) hx.up (fun t ht => ?_)
        show va_up S'.2.2.2 (q + 3) _ (q + 3) t = _
        rw [up_s]
        by_cases e : t = i
        · subst e; rw [up_s, hy]
        · rw [up_n _ _ e]; exact href t (by omega)
    exact loop2 n7 0 S (by omega) SX.rf (fun t h => absurd h (Nat.not_lt_zero _))
  have loop : ∀ (r i : Nat) (im' : Mem), i + r = n → im' q = upd (im q) 1 (nI n) → (∀ l, l < i → ∀ k, k < 7 → im' (q + 5 + l) k = f (8 + 7 * l + k)) → im' (q + 2) = im (q + 2) → (∀ a, a < q ∨ q + 15 ≤ a → im' a = im a) → V E κ 3 0 0 10 [some (.ref q), some (.ref p), some (.int (nI i))] [] S im' := by
    intro r
    induction r with
    | zero =>
      intro i im' hi hq1 hlam hl2 hfr
      refine z_iload_n (pc := 10) C dX3_becomes_10 rfl ?_
      refine z_aload_n (pc := 11) C dX3_becomes_11 rfl ?_
      refine gX3_39 (pc := 12) C dX3_becomes_12 (sl_K hs) ?_
      refine z_eqi (y := nI n) (by rw [hq1, upd_s]) ?_
      refine z_icmp_geT (pc := 15) C 39 dX3_becomes_15 (by decide) (nI_le (by omega) (by omega)) ?_
      refine z_aload_n (pc := 39) C dX3_becomes_39 rfl ?_
      refine z_aload_n (pc := 40) C dX3_becomes_40 rfl ?_
      refine gX3_46 (pc := 41) C dX3_becomes_41 (sl_K hs2) ?_
      refine z_eqi (y := f 3) (by (try simp only [up2_n _ _ _ hpq]); rw [hfr p (by omega)]; exact hr2.2.1.2.2.1) ?_
      refine pX3_46 (pc := 44) C dX3_becomes_44 (sl_K hs) ?_
      refine z_aload_n (pc := 47) C dX3_becomes_47 rfl ?_
      refine z_aload_n (pc := 48) C dX3_becomes_48 rfl ?_
      refine gX3_49 (pc := 49) C dX3_becomes_49 (sl_K hs2) ?_
      refine z_eqi (y := f 4) (by (try simp only [up2_n _ _ _ hpq]); rw [hfr p (by omega)]; exact hr2.2.1.2.2.2.1) ?_
      refine pX3_49 (pc := 52) C dX3_becomes_52 (sl_K hs) ?_
      refine z_aload_n (pc := 55) C dX3_becomes_55 rfl ?_
      refine z_aload_n (pc := 56) C dX3_becomes_56 rfl ?_
      refine gX3_21 (pc := 57) C dX3_becomes_57 (sl_K hs2) ?_
      refine z_eqi (y := f 5) (by (try simp only [up2_n _ _ _ hpq]); rw [hfr p (by omega)]; exact hr2.2.1.2.2.2.2.1) ?_
      refine pX3_21 (pc := 60) C dX3_becomes_60 (sl_K hs) ?_
      refine z_aload_n (pc := 63) C dX3_becomes_63 rfl ?_
      refine z_aload_n (pc := 64) C dX3_becomes_64 rfl ?_
      refine gX3_52 (pc := 65) C dX3_becomes_65 (sl_K hs2) ?_
      refine z_eqi (y := f 6) (by (try simp only [up2_n _ _ _ hpq]); rw [hfr p (by omega)]; exact hr2.2.1.2.2.2.2.2.1) ?_
      refine pX3_52 (pc := 68) C dX3_becomes_68 (sl_K hs) ?_
      refine z_aload_n (pc := 71) C dX3_becomes_71 rfl ?_
      refine z_aload_n (pc := 72) C dX3_becomes_72 rfl ?_
      refine gX3_55 (pc := 73) C dX3_becomes_73 (sl_K hs2) ?_
      refine z_eqi (y := f 2) (by (try simp only [up2_n _ _ _ hpq]); rw [hfr p (by omega)]; exact hr2.2.1.2.1) ?_
      refine pX3_55 (pc := 76) C dX3_becomes_76 (sl_K hs) ?_
      refine z_aload_n (pc := 79) C dX3_becomes_79 rfl ?_
      refine z_aload_n (pc := 80) C dX3_becomes_80 rfl ?_
      refine gX3_25 (pc := 81) C dX3_becomes_81 (sl_K hs2) ?_
      refine z_eqi (y := f 0) (by (try simp only [up2_n _ _ _ hpq]); rw [hfr p (by omega)]; exact hr2.2.1.1) ?_
      refine pX3_25 (pc := 84) C dX3_becomes_84 (sl_K hs) ?_
      refine z_aload_n (pc := 87) C dX3_becomes_87 rfl ?_
      refine z_aload_n (pc := 88) C dX3_becomes_88 rfl ?_
      refine gX3_58 (pc := 89) C dX3_becomes_89 (sl_K hs2) ?_
      refine z_eqi (y := f 7) (by (try simp only [up2_n _ _ _ hpq]); rw [hfr p (by omega)]; exact hr2.2.1.2.2.2.2.2.2) ?_
      refine pX3_58 (pc := 92) C dX3_becomes_92 (sl_K hs) ?_
      refine z_iconstN (pc := 95) C 0 dX3_becomes_95 ?_
      refine z_istore_n (pc := 96) C dX3_becomes_96 (by decide) rfl ?_
      refine tail _ ⟨⟨hn10, hr2.1.2.1, by simp [up2_at, hq1, upd]⟩, ⟨by simp [up2_at], by simp [up2_at], by simp [up2_at], by simp [up2_at], by simp [up2_at], by simp [up2_at], by simp [up2_at]⟩, fun l hl k hk => ?_⟩ (by simp only [up2_n _ _ _ (show q + 2 ≠ q by omega)]; exact hl2) (fun a ha => ?_)
      · simp only [up2_n _ _ _ (show q + 5 + l ≠ q by omega)]; exact hlam l (by omega) k hk
      · simp only [up2_n _ _ _ (show a ≠ q by omega)]; exact hfr a ha
    | succ r ih =>
      intro i im' hi hq1 hlam hl2 hfr
      refine z_iload_n (pc := 10) C dX3_becomes_10 rfl ?_
      refine z_aload_n (pc := 11) C dX3_becomes_11 rfl ?_
      refine gX3_39 (pc := 12) C dX3_becomes_12 (sl_K hs) ?_
      refine z_eqi (y := nI n) (by rw [hq1, upd_s]) ?_
      refine z_icmp_geF (pc := 15) C 39 dX3_becomes_15 (by decide) (nI_ge (by omega) (by omega)) ?_
      refine z_aload_n (pc := 18) C dX3_becomes_18 rfl ?_
      refine gX3_11 (pc := 19) C dX3_becomes_19 (sl_K hs) (sl_r0 hs) ?_
      refine z_iload_n (pc := 22) C dX3_becomes_22 rfl ?_
      refine z_aald (pc := 23) C dX3_becomes_23 (sl_a1 hs) (by decide) (sl_n1 hs) (by omega) (by decide) (sl_e hs (i := i) (by omega)) ?_
      refine z_aload_n (pc := 24) C dX3_becomes_24 rfl ?_
      refine gX3_11 (pc := 25) C dX3_becomes_25 (sl_K hs2) (sl_r0 hs2) ?_
      refine z_iload_n (pc := 28) C dX3_becomes_28 rfl ?_
      refine z_aald (pc := 29) C dX3_becomes_29 (sl_a1 hs2) (by decide) (sl_n1 hs2) (by omega) (by decide) (sl_e hs2 (i := i) (by omega)) ?_
      refine kX3_42 (pc := 30) C dX3_becomes_30 (c0_becomes κ.2.1 E S im' (q + 5 + i) (sl_l hs (by omega)) (p + 5 + i) (sl_l hs2 (by omega)) (by omega)) (sl_l hs (i := i) (by omega)) (by decide) (Nat.le_of_ble_eq_true rfl) (Nat.le_refl _) (Nat.le_refl _) (fun S_30 im_30 h_30 => ?_)
      obtain ⟨rfl, g1, g2⟩ := h_30
      refine z_iincN (pc := 33) C 1 dX3_becomes_33 rfl (by decide) rfl ?_
      refine z_goto (pc := 36) C 10 dX3_becomes_36 (by decide) ?_
      refine ih (i + 1) _ (by omega) (by rw [g2 _ (by omega)]; exact hq1) (fun l hl k hk => ?_) (by rw [g2 _ (by omega)]; exact hl2) (fun a ha => by rw [g2 _ (by omega)]; exact hfr a ha)
      by_cases e : l = i
      · subst e; rw [g1 k, if_pos hk, hfr _ (by omega)]; exact hr2.2.2 l (by omega) k hk
      · rw [g2 _ (by omega)]; exact hlam l (by omega) k hk
  refine z_aload_n (pc := 0) C dX3_becomes_0 rfl ?_
  refine z_aload_n (pc := 1) C dX3_becomes_1 rfl ?_
  refine gX3_39 (pc := 2) C dX3_becomes_2 (sl_K hs2) ?_
  refine z_eqi (y := nI n) (hr2.1.2.2) ?_
  refine pX3_39 (pc := 5) C dX3_becomes_5 (sl_K hs) ?_
  refine z_iconstN (pc := 8) C 0 dX3_becomes_8 ?_
  refine z_istore_n (pc := 9) C dX3_becomes_9 (by decide) rfl ?_
  exact loop n 0 _ (by omega) (up2_s _ _ _ _) (fun l h => absurd h (Nat.not_lt_zero _)) (up2_n _ _ _ (by omega)) (fun a ha => up2_n _ _ _ (by omega))
set_option maxRecDepth 100000 in
set_option maxHeartbeats 4000000 in
theorem c3_addText (l : Launch) (E : Ex) (S : Sx) (im : Mem) (q : Nat) (hs : SL S q) (y n7 key : Nat) (hy4 : S.2.1 (y + 1) = 4) (hyq : q + 15 ≤ y) (h14 : n7 < 14) (h10 : im q 10 = nI n7) (hkey : im (y + 1) 0 = nI key) (hk3 : key < 3) : Mt l E yX3_addText cX3_addText 2 none 2 0 0 [.ref q, .ref (y + 1)] S im (pV (fun S' im' => rS S (q + 3) (va_up (S.2.2.2 (q + 3)) n7 (some (y + 1))) = S' ∧ up2 (up2 im (q + 4) key (nI n7)) q 10 (nI (n7 + 1)) = im')) := by
  refine Mt.of (by decide +kernel) rfl rfl (Nat.le_of_ble_eq_true rfl) ?_
  intro κ hκ C ρ
  subst hκ
  show V E κ 2 0 0 0 [some (.ref q), some (.ref (y + 1))] [] S im
  refine z_aload_n (pc := 0) C dX3_addText_0 rfl ?_
  refine gX3_58 (pc := 1) C dX3_addText_1 (sl_K hs) ?_
  refine z_eqi (y := nI n7) (h10) ?_
  refine z_bipushN (pc := 4) C 14 (by decide) dX3_addText_4 ?_
  refine z_icmp_geF (pc := 6) C 19 dX3_addText_6 (by decide) (nI_ge (by omega) (by omega)) ?_
  refine z_aload_n (pc := 9) C dX3_addText_9 rfl ?_
  refine gX3_88 (pc := 10) C dX3_addText_10 hy4 ?_
  refine z_eqi (y := nI key) (hkey) ?_
  refine kX3_91 (pc := 13) C dX3_addText_13 (c4_isKey κ.2.1 E S im (nI key)) (by decide) (Nat.le_of_ble_eq_true rfl) (Nat.le_refl _) (Nat.le_refl _) (fun v_13 S_13 im_13 h_13 => ?_)
  rcases h_13 with ⟨hb_13, rfl, rfl, rfl⟩ | ⟨hb_13, rfl, rfl, rfl⟩
  · 
    refine z_if_neT (pc := 16) C 20 dX3_addText_16 (by decide) (by decide) ?_
    refine z_aload_n (pc := 20) C dX3_addText_20 rfl ?_
    refine gX3_30 (pc := 21) C dX3_addText_21 (sl_K hs) (sl_r9 hs) ?_
    refine z_aload_n (pc := 24) C dX3_addText_24 rfl ?_
    refine gX3_58 (pc := 25) C dX3_addText_25 (sl_K hs) ?_
    refine z_eqi (y := nI n7) (h10) ?_
    refine z_aload_n (pc := 28) C dX3_addText_28 rfl ?_
    refine z_aast (pc := 29) C dX3_addText_29 (sl_a3 hs) (by decide) (sl_n3 hs) (by omega) (by decide) (by rw [if_pos rfl]; exact hy4) ?_
    have hs : SL (rS S (q + 3) (va_up (S.2.2.2 (q + 3)) n7 (some (y + 1)))) q := SL_X hs (SX.rf (q := q)).up (by omega) (by omega)
    refine z_aload_n (pc := 30) C dX3_addText_30 rfl ?_
    refine gX3_35 (pc := 31) C dX3_addText_31 (sl_K hs) (sl_r11 hs) ?_
    refine z_aload_n (pc := 34) C dX3_addText_34 rfl ?_
    refine gX3_88 (pc := 35) C dX3_addText_35 hy4 ?_
    refine z_eqi (y := nI key) (hkey) ?_
    refine z_aload_n (pc := 38) C dX3_addText_38 rfl ?_
    refine gX3_58 (pc := 39) C dX3_addText_39 (sl_K hs) ?_
    refine z_eqi (y := nI n7) (h10) ?_
    refine z_iast (pc := 42) C dX3_addText_42 (sl_a4 hs) (sl_n4 hs) (by omega) (by decide) ?_
    refine z_aload_n (pc := 43) C dX3_addText_43 rfl ?_
    refine z_dup (pc := 44) C dX3_addText_44 rfl ?_
    refine gX3_58 (pc := 45) C dX3_addText_45 (sl_K hs) ?_
    refine z_eqi (y := nI n7) (by rw [up2_n _ _ _ (by omega)]; exact h10) ?_
    refine z_iconstN (pc := 48) C 1 dX3_addText_48 ?_
    refine z_iaddN (pc := 49) C dX3_addText_49 ?_
    refine pX3_58 (pc := 50) C dX3_addText_50 (sl_K hs) ?_
    exact z_vret (pc := 53) C ρ dX3_addText_53 (⟨rfl, rfl, rfl⟩)
  · 
    exact absurd ((rng (by decide) (by decide)).mpr ⟨key, by omega, by omega, rfl⟩) hb_13
