/-! the class: the text that counts -/
/-- the text made at y is text t of the numbers f -/
def TXr (S : Sx) (im : Mem) (f : Nat → Int32) (t y m key u : Nat) : Prop := TXL S y m u ∧ TxOk f t key m ∧ (cG (s_row f t) m ≤ u ∧ 1 ≤ u ∧ u ≤ 97) ∧ (∀ k, k < m → im y k = cmC (s_row f t k)) ∧ im (y + 1) 0 = nI key ∧ im (y + 1) 1 = f (78 + 2 * t + 1)
/-- the texts of the street at q; all texts are made at X, X + 3, and so on -/
def TR (S : Sx) (im : Mem) (q X : Nat) (f : Nat → Int32) (n7 : Nat) : Prop := (n7 ≤ 14 ∧ im q 10 = nI n7 ∧ f 7 = nI n7) ∧ (∀ t, t < n7 → ∃ i m key u, S.2.2.2 (q + 3) t = some (X + 3 * i + 1) ∧ TXr S im f t (X + 3 * i) m key u) ∧ ∀ k, k < 3 → im (q + 4) k = s_told0 (s_cnt f (nI k) n7)
/-- only stacks of texts have changed -/
def frS (X : Nat) (im im' : Mem) : Prop := ∀ a, (a < X ∨ ¬ (a - X) % 3 = 2) → im' a = im a
theorem frS.rf {X : Nat} {im : Mem} : frS X im im := fun _ _ => rfl
theorem frS.tr {X : Nat} {a b c : Mem} (h1 : frS X a b) (h2 : frS X b c) : frS X a c := fun q h => (h2 q h).trans (h1 q h)
theorem TXr_fr {S : Sx} {im im' : Mem} {f : Nat → Int32} {t X i m key u : Nat} (h : TXr S im f t (X + 3 * i) m key u) (hf : frS X im im') : TXr S im' f t (X + 3 * i) m key u := by
  obtain ⟨h1, h2, h3, h4, h5, h6⟩ := h
  refine ⟨h1, h2, h3, fun k hk => ?_, ?_, ?_⟩
  · rw [hf _ (by omega)]; exact h4 k hk
  · rw [hf _ (by omega)]; exact h5
  · rw [hf _ (by omega)]; exact h6
theorem TR_fr {S : Sx} {im im' : Mem} {q X : Nat} {f : Nat → Int32} {n7 : Nat} (h : TR S im q X f n7) (hq : im' q 10 = im q 10) (hc : im' (q + 4) = im (q + 4)) (hf : frS X im im') : TR S im' q X f n7 := by
  obtain ⟨⟨a1, a2, a3⟩, b, c⟩ := h
  refine ⟨⟨a1, by rw [hq]; exact a2, a3⟩, fun t ht => ?_, fun k hk => by rw [hc]; exact c k hk⟩
  obtain ⟨i, m, key, u, g1, g2⟩ := b t ht
  exact ⟨i, m, key, u, g1, TXr_fr g2 hf⟩
theorem told_m1 : s_told0 (-1) = -1000000005 := by decide +kernel
theorem told_nI {t : Nat} (h : t < 2 ^ 31) : s_told0 (nI t) = nI t := by rw [s_told0, if_pos (nI_pos' h)]
set_option maxRecDepth 100000 in
set_option maxHeartbeats 4000000 in
theorem c3_textThatCounts (l : Launch) (E : Ex) (S : Sx) (im : Mem) (q : Nat) (hs : SL S q) (X : Nat) (f : Nat → Int32) (n7 : Nat) (hT : TR S im q X f n7) (k : Nat) (hk : k < 3) : Mt l E yX3_textThatCounts cX3_textThatCounts 2 (some (.object "LampOrder$Text")) 2 0 0 [.ref q, .int (nI k)] S im (pA (fun v S' im' => ((s_cnt f (nI k) n7 = -1 ∧ v = none) ∨ ∃ t i m key u, t < n7 ∧ s_cnt f (nI k) n7 = nI t ∧ S.2.2.2 (q + 3) t = some (X + 3 * i + 1) ∧ TXr S im f t (X + 3 * i) m key u ∧ v = some (X + 3 * i + 1)) ∧ S = S' ∧ im = im')) := by
  refine Mt.of (by decide +kernel) rfl rfl (Nat.le_of_ble_eq_true rfl) ?_
  intro κ hκ C ρ
  subst hκ
  show V E κ 2 0 0 0 [some (.ref q), some (.int (nI k))] [] S im
  have h14 := hT.1.1
  rcases s_cnt_cases f (nI k) n7 with hc | ⟨t, htn, hc, -⟩
  ·
    refine z_iload_n (pc := 0) C dX3_textThatCounts_0 rfl ?_
    refine kX3_91 (pc := 1) C dX3_textThatCounts_1 (c4_isKey κ.2.1 E S im (nI k)) (by decide) (Nat.le_of_ble_eq_true rfl) (Nat.le_refl _) (Nat.le_refl _) (fun v_1 S_1 im_1 h_1 => ?_)
    rcases h_1 with ⟨hb_1, rfl, rfl, rfl⟩ | ⟨hb_1, rfl, rfl, rfl⟩
    · 
      refine z_if_eqF (pc := 4) C 34 dX3_textThatCounts_4 (by decide) (by decide) ?_
      refine z_aload_n (pc := 7) C dX3_textThatCounts_7 rfl ?_
      refine z_aload_n (pc := 8) C dX3_textThatCounts_8 rfl ?_
      refine gX3_35 (pc := 9) C dX3_textThatCounts_9 (sl_K hs) (sl_r11 hs) ?_
      refine z_iload_n (pc := 12) C dX3_textThatCounts_12 rfl ?_
      refine z_iald (pc := 13) C dX3_textThatCounts_13 (sl_a4 hs) (sl_n4 hs) (by omega) (by decide) ?_
      refine z_eqi (y := -1000000005) (by rw [hT.2.2 k hk, hc, told_m1]) ?_
      refine kX3_95 (pc := 14) C dX3_textThatCounts_14 (c3_hasText κ.2.1 E S im q hs (-1000000005) n7 hT.1.1 hT.1.2.1) (sl_K hs) (by decide) (Nat.le_of_ble_eq_true rfl) (Nat.le_refl _) (Nat.le_refl _) (fun v_14 S_14 im_14 h_14 => ?_)
      rcases h_14 with ⟨hb_14, rfl, rfl, rfl⟩ | ⟨hb_14, rfl, rfl, rfl⟩
      · 
        exact absurd hb_14.1 (by decide)
      · 
        refine z_if_eqT (pc := 17) C 34 dX3_textThatCounts_17 (by decide) (by decide) ?_
        refine z_null (pc := 34) C dX3_textThatCounts_34 ?_
        exact z_aret (pc := 35) C ρ (Or.inl rfl) dX3_textThatCounts_35 (⟨none, rfl, Or.inl ⟨hc, rfl⟩, rfl, rfl⟩)
    · 
      exact absurd ((rng (by decide) (by decide)).mpr ⟨k, by omega, by omega, rfl⟩) hb_1
  · obtain ⟨i, m, key, u, hy, hx⟩ := hT.2.1 t htn
    have hct : im (q + 4) k = nI t := by rw [hT.2.2 k hk, hc]; exact told_nI (by omega)
    refine z_iload_n (pc := 0) C dX3_textThatCounts_0 rfl ?_
    refine kX3_91 (pc := 1) C dX3_textThatCounts_1 (c4_isKey κ.2.1 E S im (nI k)) (by decide) (Nat.le_of_ble_eq_true rfl) (Nat.le_refl _) (Nat.le_refl _) (fun v_1 S_1 im_1 h_1 => ?_)
    rcases h_1 with ⟨hb_1, rfl, rfl, rfl⟩ | ⟨hb_1, rfl, rfl, rfl⟩
    · 
      refine z_if_eqF (pc := 4) C 34 dX3_textThatCounts_4 (by decide) (by decide) ?_
      refine z_aload_n (pc := 7) C dX3_textThatCounts_7 rfl ?_
      refine z_aload_n (pc := 8) C dX3_textThatCounts_8 rfl ?_
      refine gX3_35 (pc := 9) C dX3_textThatCounts_9 (sl_K hs) (sl_r11 hs) ?_
      refine z_iload_n (pc := 12) C dX3_textThatCounts_12 rfl ?_
      refine z_iald (pc := 13) C dX3_textThatCounts_13 (sl_a4 hs) (sl_n4 hs) (by omega) (by decide) ?_
      refine z_eqi (y := nI t) (hct) ?_
      refine kX3_95 (pc := 14) C dX3_textThatCounts_14 (c3_hasText κ.2.1 E S im q hs (nI t) n7 hT.1.1 hT.1.2.1) (sl_K hs) (by decide) (Nat.le_of_ble_eq_true rfl) (Nat.le_refl _) (Nat.le_refl _) (fun v_14 S_14 im_14 h_14 => ?_)
      rcases h_14 with ⟨hb_14, rfl, rfl, rfl⟩ | ⟨hb_14, rfl, rfl, rfl⟩
      · 
        refine z_if_eqF (pc := 17) C 34 dX3_textThatCounts_17 (by decide) (by decide) ?_
        refine z_aload_n (pc := 20) C dX3_textThatCounts_20 rfl ?_
        refine gX3_30 (pc := 21) C dX3_textThatCounts_21 (sl_K hs) (sl_r9 hs) ?_
        refine z_aload_n (pc := 24) C dX3_textThatCounts_24 rfl ?_
        refine gX3_35 (pc := 25) C dX3_textThatCounts_25 (sl_K hs) (sl_r11 hs) ?_
        refine z_iload_n (pc := 28) C dX3_textThatCounts_28 rfl ?_
        refine z_iald (pc := 29) C dX3_textThatCounts_29 (sl_a4 hs) (sl_n4 hs) (by omega) (by decide) ?_
        refine z_eqi (y := nI t) (hct) ?_
        refine z_aald (pc := 30) C dX3_textThatCounts_30 (sl_a3 hs) (by decide) (sl_n3 hs) (by omega) (by decide) hy ?_
        refine z_goto (pc := 31) C 35 dX3_textThatCounts_31 (by decide) ?_
        exact z_aret (pc := 35) C ρ (Or.inr ⟨_, rfl⟩) dX3_textThatCounts_35 (⟨some (X + 3 * i + 1), rfl, Or.inr ⟨t, i, m, key, u, htn, hc, hy, hx, rfl⟩, rfl, rfl⟩)
      · 
        exact absurd ((in_sz (by omega)).mpr ⟨t, htn, rfl⟩) hb_14
    · 
      exact absurd ((rng (by decide) (by decide)).mpr ⟨k, by omega, by omega, rfl⟩) hb_1
