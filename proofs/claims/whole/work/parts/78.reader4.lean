/-! the class: readPiece, readLevel against the descent rd -/
theorem ch_iff {a : Nat → Int32} {T : Nat} {σ : RS} {c : Nat} : r_ch a T σ c = true ↔ (tK a T σ.1 σ.2.1 = 3 ∧ a (tS a T σ.1) = nI c) := by
  rw [r_ch, decide_eq_true_iff]
  exact ⟨fun h => ⟨h.1, by rw [← tv_3 h.1]; exact h.2⟩, fun h => ⟨h.1, by rw [tv_3 h.1]; exact h.2⟩⟩
theorem pb_3 {a : Nat → Int32} {T : Nat} {σ : RS} {key : Int32} (h1 : ¬ tK a T σ.1 σ.2.1 = 1) (h2 : ¬ tK a T σ.1 σ.2.1 = 2) : ¬ isPb a T σ.1 σ.2.1 key = true := fun h => by
  rcases isPb_iff.mp h with e | e
  · exact h2 e
  · exact h1 e.1
theorem rd_len {a : Nat → Int32} {T key d l pr b : Nat} {σ : RS} (hk : key < 3) (hp : σ.1 ≤ T) (hlen : σ.2.2.1.length ≤ σ.1) (h : (rd a T (nI key) d l pr b σ).1 = true) : (rd a T (nI key) d l pr b σ).2.2.2.1.length ≤ (rd a T (nI key) d l pr b σ).2.1 ∧ (rd a T (nI key) d l pr b σ).2.1 ≤ T := by
  obtain ⟨xs, e1, -, -, e4⟩ := rd_sg a T key hk d l pr b σ hp h
  have h3 := (rd_pos a T (nI key) d l pr b σ hp).2.1
  rw [e1, List.length_append]
  exact ⟨by omega, h3⟩
theorem rd_len2 {a : Nat → Int32} {T key d l pr b : Nat} {σ : RS} (hk : key < 3) (hp : σ.1 ≤ T) (hs : ¬ tS a T σ.1 = T) (hlen : σ.2.2.1.length ≤ σ.1) (h : (rd a T (nI key) d l pr b (r_nx a T σ)).1 = true) : (rd a T (nI key) d l pr b (r_nx a T σ)).2.2.2.1.length < (rd a T (nI key) d l pr b (r_nx a T σ)).2.1 ∧ (rd a T (nI key) d l pr b (r_nx a T σ)).2.1 ≤ T := by
  obtain ⟨g1, g2⟩ := r_nx_pos hp hs
  obtain ⟨xs, e1, -, -, e4⟩ := rd_sg a T key hk d l pr b (r_nx a T σ) g2 h
  have h3 := (rd_pos a T (nI key) d l pr b (r_nx a T σ) g2).2.1
  rw [e1, List.length_append]
  have e5 : (r_nx a T σ).2.2.1 = σ.2.2.1 := rfl
  rw [e5]
  exact ⟨by omega, h3⟩
theorem wk_ne {a : Nat → Int32} {T l : Nat} {σ : RS} : wkV a T l σ = 0 ↔ r_wk a T l σ = 0 := by
  unfold wkV
  by_cases h : r_wk a T l σ = 0
  · rw [if_pos h, nI_0]; exact ⟨fun _ => h, fun _ => rfl⟩
  · rw [if_neg h]
    refine ⟨fun q => ?_, fun q => absurd q h⟩
    exfalso
    obtain ⟨h1, h2, h3⟩ := r_wk_s h
    have h4 := r_sg_s h1
    rw [r_sg, if_pos h4] at h1 h3
    obtain ⟨j, j1, j9, e⟩ := sg_val h1
    rw [h3, e, cm_op j1 j9] at q
    rcases (show j = 1 ∨ j = 2 ∨ j = 3 ∨ j = 4 ∨ j = 5 ∨ j = 6 ∨ j = 7 ∨ j = 8 ∨ j = 9 by omega) with rfl | rfl | rfl | rfl | rfl | rfl | rfl | rfl | rfl <;> exact absurd q (by decide)
theorem wk_cm {a : Nat → Int32} {T l : Nat} {σ : RS} (h : ¬ r_wk a T l σ = 0) : wkV a T l σ = cmC (r_wk a T l σ) := by
  unfold wkV
  rw [if_neg h]
set_option maxRecDepth 100000 in
set_option maxHeartbeats 8000000 in
theorem c5_rd (l : Launch) (E : Ex) (S : Sx) (R : Nat) (hR : RLay S R) (T : Nat) (hT : T ≤ 96) (key : Nat) (hk3 : key < 3) (a : Nat → Int32) : ∀ d : Nat, (∀ (im : Mem) (lv pr b : Nat) (σ : RS), lv ≤ 5 → pr ≤ 8 → b ≤ 8 → 7 * (8 - pr) + (8 - b) + (6 - lv) ≤ d → PC0 a im R T key σ → σ.2.2.1.length ≤ σ.1 → Mt l E yX5_readLevel cX5_readLevel 7 (some .boolean) (2 * (d) + 6) 0 0 [.ref R, .int (nI lv), .int (nI pr), .int (nI b)] S im (pI (pRd S a im R T key (rd a T (nI key) (d) lv pr b σ)))) ∧ (∀ (im : Mem) (pr b : Nat) (σ : RS), pr ≤ 8 → b ≤ 8 → 7 * (8 - pr) + (8 - b) + 1 ≤ d → PC0 a im R T key σ → σ.2.2.1.length ≤ σ.1 → Mt l E yX5_readPiece cX5_readPiece 3 (some .boolean) (2 * (d) + 5) 0 0 [.ref R, .int (nI pr), .int (nI b)] S im (pI (pRd S a im R T key (rd a T (nI key) (d) 5 pr b σ)))) := by
  intro d
  induction d with
  | zero => exact ⟨fun im lv pr b σ h1 h2 h3 h4 => absurd h4 (by omega), fun im pr b σ h2 h3 h4 => absurd h4 (by omega)⟩
  | succ d ih =>
    have hpc : ∀ (im : Mem) (pr b : Nat) (σ : RS), pr ≤ 8 → b ≤ 8 → 7 * (8 - pr) + (8 - b) + 1 ≤ d + 1 → PC0 a im R T key σ → σ.2.2.1.length ≤ σ.1 → Mt l E yX5_readPiece cX5_readPiece 3 (some .boolean) (2 * (d + 1) + 5) 0 0 [.ref R, .int (nI pr), .int (nI b)] S im (pI (pRd S a im R T key (rd a T (nI key) (d + 1) 5 pr b σ))) := by
      intro im pr b σ hpr hb hd h hlen
      refine Mt.of (by decide +kernel) rfl rfl (Nat.le_of_ble_eq_true rfl) ?_
      intro κ hκ C ρ
      subst hκ
      show V E κ 3 0 0 0 [some (.ref R), some (.int (nI pr)), some (.int (nI b))] [] S im
      refine z_aload_n (pc := 0) C dX5_readPiece_0 rfl ?_
      refine gX5_22 (pc := 1) C dX5_readPiece_1 hR.1 ?_
      refine z_eqi (y := nI (tK a T σ.1 σ.2.1)) (h.2.2.1.2.1) ?_
      refine z_iconstN (pc := 4) C 2 dX5_readPiece_4 ?_
      refine z_icmp_eqN (pc := 5) C 16 dX5_readPiece_5 (by decide) (by have := tK_le a T σ.1 σ.2.1; omega) (by omega) (fun c_5 => ?_) (fun c_5 => ?_)
      · 
        refine z_aload_n (pc := 16) C dX5_readPiece_16 rfl ?_
        refine kX5_95 (pc := 17) C dX5_readPiece_17 (c5_readOperand κ.2.1 E S im R hR T hT key hk3 a σ h hlen (Or.inr c_5)) hR.1 (by omega) (Nat.le_of_ble_eq_true rfl) (Nat.le_refl _) (Nat.le_refl _) (fun v_17 S_17 im_17 h_17 => ?_)
        obtain ⟨rfl, hfr, hres⟩ := h_17
        have hrd : rd a T (nI key) (d + 1) 5 (pr) (b) (σ) = (if isPb a T σ.1 σ.2.1 (nI key) = true then (true, r_pt a T (nI key) σ) else (false, σ)) := by
          rw [rd, if_pos rfl]
          by_cases hq : isPb a T σ.1 σ.2.1 (nI key) = true
          · rw [if_pos hq, if_pos hq]
          · rw [if_neg hq, if_neg hq, if_neg (fun q => by have := (ch_iff.mp q.1).1; omega), if_neg (fun q => by have := (ch_iff.mp q.1).1; omega)]
        rw [← hrd] at hres
        rcases hres with ⟨e1, rfl, e3⟩ | ⟨e1, rfl, e3⟩
        · exact z_zret (pc := 20) C ρ dX5_readPiece_20 (by decide) (⟨_, rfl, rfl, hfr, Or.inl ⟨e1, rfl, e3⟩⟩)
        · exact z_zret (pc := 20) C ρ dX5_readPiece_20 (by decide) (⟨_, rfl, rfl, hfr, Or.inr ⟨e1, rfl, e3⟩⟩)
      · 
        refine z_aload_n (pc := 8) C dX5_readPiece_8 rfl ?_
        refine gX5_22 (pc := 9) C dX5_readPiece_9 hR.1 ?_
        refine z_eqi (y := nI (tK a T σ.1 σ.2.1)) (h.2.2.1.2.1) ?_
        refine z_iconstN (pc := 12) C 1 dX5_readPiece_12 ?_
        refine z_icmp_neN (pc := 13) C 21 dX5_readPiece_13 (by decide) (by have := tK_le a T σ.1 σ.2.1; omega) (by omega) (fun c_13 => ?_) (fun c_13 => ?_)
        · 
          refine z_aload_n (pc := 21) C dX5_readPiece_21 rfl ?_
          refine z_bipushN (pc := 22) C 33 (by decide) dX5_readPiece_22 ?_
          refine kX5_99 (pc := 24) C dX5_readPiece_24 (c5_isSign κ.2.1 E S im R hR T hT h.2.1 σ.1 h.2.2.2.2.2.2.2 σ.2.1 h.tk (nI 33)) hR.1 (by omega) (Nat.le_of_ble_eq_true rfl) (Nat.le_refl _) (Nat.le_refl _) (fun v_24 S_24 im_24 h_24 => ?_)
          rcases h_24 with ⟨hb_24, rfl, rfl, rfl⟩ | ⟨hb_24, rfl, rfl, rfl⟩
          · 
            rw [h.1] at hb_24
            refine z_if_eqF (pc := 27) C 61 dX5_readPiece_27 (by decide) (by decide) ?_
            refine z_iload_n (pc := 30) C dX5_readPiece_30 rfl ?_
            refine z_bipushN (pc := 31) C 8 (by decide) dX5_readPiece_31 ?_
            refine z_icmp_geN (pc := 33) C 61 dX5_readPiece_33 (by decide) (by omega) (by omega) (fun c_33 => ?_) (fun c_33 => ?_)
            · 
              refine z_aload_n (pc := 61) C dX5_readPiece_61 rfl ?_
              refine z_bipushN (pc := 62) C 40 (by decide) dX5_readPiece_62 ?_
              refine kX5_99 (pc := 64) C dX5_readPiece_64 (c5_isSign κ.2.1 E S im R hR T hT h.2.1 σ.1 h.2.2.2.2.2.2.2 σ.2.1 h.tk (nI 40)) hR.1 (by omega) (Nat.le_of_ble_eq_true rfl) (Nat.le_refl _) (Nat.le_refl _) (fun v_64 S_64 im_64 h_64 => ?_)
              rcases h_64 with ⟨hb_64, rfl, rfl, rfl⟩ | ⟨hb_64, rfl, rfl, rfl⟩
              · 
                rw [h.1] at hb_64
                refine z_if_eqF (pc := 67) C 109 dX5_readPiece_67 (by decide) (by decide) ?_
                refine z_iload_n (pc := 70) C dX5_readPiece_70 rfl ?_
                refine z_bipushN (pc := 71) C 8 (by decide) dX5_readPiece_71 ?_
                refine z_icmp_geN (pc := 73) C 109 dX5_readPiece_73 (by decide) (by omega) (by omega) (fun c_73 => ?_) (fun c_73 => ?_)
                · 
                  refine z_iconstN (pc := 109) C 0 dX5_readPiece_109 ?_
                  exact z_zret (pc := 110) C ρ dX5_readPiece_110 (by decide) (⟨_, rfl, rfl, frR.rf, Or.inr ⟨by rw [rd, if_pos rfl, if_neg (show ¬ (isPb a T σ.1 σ.2.1 (nI key) = true) from pb_3 c_13 c_5), if_neg (fun q => by omega), if_neg (fun q => by omega)], rfl, by rw [rd, if_pos rfl, if_neg (show ¬ (isPb a T σ.1 σ.2.1 (nI key) = true) from pb_3 c_13 c_5), if_neg (fun q => by omega), if_neg (fun q => by omega)]; exact h.2.2.1.1⟩⟩)
                · 
                  refine z_aload_n (pc := 76) C dX5_readPiece_76 rfl ?_
                  refine kX5_34 (pc := 77) C dX5_readPiece_77 (c5_step κ.2.1 E S (im) R hR T hT h.2.1 (tE a T (σ).1) (tE_le h.2.2.2.2.2.2.2) h.2.2.1.2.2 (tWb a T (σ).1) (by rw [h.2.2.1.2.1]; exact tk_w (by omega))) hR.1 (by omega) (Nat.le_of_ble_eq_true rfl) (Nat.le_refl _) (Nat.le_refl _) (fun S_77 im_77 h_77 => ?_)
                  obtain ⟨rfl, g1_77, g2_77, g3_77, gj_77, gc_77⟩ := h_77
                  have st_77 : PC0 a im_77 R T key (r_nx a T (σ)) := PC0_step h g1_77 g2_77 g3_77 gj_77 gc_77
                  refine z_aload_n (pc := 80) C dX5_readPiece_80 rfl ?_
                  refine z_iconstN (pc := 81) C 0 dX5_readPiece_81 ?_
                  refine z_iload_n (pc := 82) C dX5_readPiece_82 rfl ?_
                  refine z_iconstN (pc := 83) C 1 dX5_readPiece_83 ?_
                  refine z_iaddN (pc := 84) C dX5_readPiece_84 ?_
                  refine z_iload_n (pc := 85) C dX5_readPiece_85 rfl ?_
                  refine kX5_44 (pc := 86) C dX5_readPiece_86 (ih.1 im_77 0 (pr + 1) b (r_nx a T σ) (by omega) (by omega) (by omega) (by omega) st_77 (show σ.2.2.1.length ≤ tE a T σ.1 by have := tE_ge (a := a) h.2.2.2.2.2.2.2; omega)) hR.1 (by omega) (Nat.le_of_ble_eq_true rfl) (Nat.le_refl _) (Nat.le_refl _) (fun v_86 S_86 im_86 h_86 => ?_)
                  obtain ⟨rfl, fr_86, hres_86⟩ := h_86
                  rcases hres_86 with ⟨e_86, rfl, st_86⟩ | ⟨e_86, rfl, st_86⟩
                  · 
                    refine z_if_eqF (pc := 89) C 101 dX5_readPiece_89 (by decide) (by decide) ?_
                    refine z_aload_n (pc := 92) C dX5_readPiece_92 rfl ?_
                    refine z_bipushN (pc := 93) C 41 (by decide) dX5_readPiece_93 ?_
                    refine kX5_99 (pc := 95) C dX5_readPiece_95 (c5_isSign κ.2.1 E S im_86 R hR T hT st_86.2.1 (rd a T (nI key) (d) 0 (pr + 1) (b) (r_nx a T σ)).2.1 st_86.2.2.2.2.2.2.2 (rd a T (nI key) (d) 0 (pr + 1) (b) (r_nx a T σ)).2.2.1 st_86.tk (nI 41)) hR.1 (by omega) (Nat.le_of_ble_eq_true rfl) (Nat.le_refl _) (Nat.le_refl _) (fun v_95 S_95 im_95 h_95 => ?_)
                    rcases h_95 with ⟨hb_95, rfl, rfl, rfl⟩ | ⟨hb_95, rfl, rfl, rfl⟩
                    · 
                      rw [st_86.1] at hb_95
                      refine z_if_neT (pc := 98) C 103 dX5_readPiece_98 (by decide) (by decide) ?_
                      refine z_aload_n (pc := 103) C dX5_readPiece_103 rfl ?_
                      refine kX5_34 (pc := 104) C dX5_readPiece_104 (c5_step κ.2.1 E S (im_86) R hR T hT st_86.2.1 (tE a T ((rd a T (nI key) (d) 0 (pr + 1) (b) (r_nx a T σ)).2).1) (tE_le st_86.2.2.2.2.2.2.2) st_86.2.2.1.2.2 (tWb a T ((rd a T (nI key) (d) 0 (pr + 1) (b) (r_nx a T σ)).2).1) (by rw [st_86.2.2.1.2.1]; exact tk_w (by have := hb_95.1; omega))) hR.1 (by omega) (Nat.le_of_ble_eq_true rfl) (Nat.le_refl _) (Nat.le_refl _) (fun S_104 im_104 h_104 => ?_)
                      obtain ⟨rfl, g1_104, g2_104, g3_104, gj_104, gc_104⟩ := h_104
                      have st_104 : PC0 a im_104 R T key (r_nx a T ((rd a T (nI key) (d) 0 (pr + 1) (b) (r_nx a T σ)).2)) := PC0_step st_86 g1_104 g2_104 g3_104 gj_104 gc_104
                      refine z_iconstN (pc := 107) C 1 dX5_readPiece_107 ?_
                      exact z_zret (pc := 108) C ρ dX5_readPiece_108 (by decide) (⟨_, rfl, rfl, (frR.s gc_77).tr (fr_86.tr (frR.s gc_104)), Or.inl ⟨by rw [rd, if_pos rfl, if_neg (show ¬ (isPb a T σ.1 σ.2.1 (nI key) = true) from pb_3 c_13 c_5), if_neg (fun q => by omega), if_pos ⟨ch_iff.mpr hb_64, by omega⟩, if_pos ⟨e_86, ch_iff.mpr hb_95⟩], rfl, by rw [rd, if_pos rfl, if_neg (show ¬ (isPb a T σ.1 σ.2.1 (nI key) = true) from pb_3 c_13 c_5), if_neg (fun q => by omega), if_pos ⟨ch_iff.mpr hb_64, by omega⟩, if_pos ⟨e_86, ch_iff.mpr hb_95⟩]; exact st_104⟩⟩)
                    · 
                      refine z_if_neF (pc := 98) C 103 dX5_readPiece_98 (by decide) (by decide) ?_
                      refine z_iconstN (pc := 101) C 0 dX5_readPiece_101 ?_
                      exact z_zret (pc := 102) C ρ dX5_readPiece_102 (by decide) (⟨_, rfl, rfl, (frR.s gc_77).tr fr_86, Or.inr ⟨by rw [rd, if_pos rfl, if_neg (show ¬ (isPb a T σ.1 σ.2.1 (nI key) = true) from pb_3 c_13 c_5), if_neg (fun q => by omega), if_pos ⟨ch_iff.mpr hb_64, by omega⟩, if_neg (fun q => hb_95 (by rw [st_86.1]; exact ch_iff.mp q.2))], rfl, by rw [rd, if_pos rfl, if_neg (show ¬ (isPb a T σ.1 σ.2.1 (nI key) = true) from pb_3 c_13 c_5), if_neg (fun q => by omega), if_pos ⟨ch_iff.mpr hb_64, by omega⟩, if_neg (fun q => hb_95 (by rw [st_86.1]; exact ch_iff.mp q.2))]; exact st_86.2.2.1.1⟩⟩)
                  · 
                    refine z_if_eqT (pc := 89) C 101 dX5_readPiece_89 (by decide) (by decide) ?_
                    refine z_iconstN (pc := 101) C 0 dX5_readPiece_101 ?_
                    exact z_zret (pc := 102) C ρ dX5_readPiece_102 (by decide) (⟨_, rfl, rfl, (frR.s gc_77).tr fr_86, Or.inr ⟨by rw [rd, if_pos rfl, if_neg (show ¬ (isPb a T σ.1 σ.2.1 (nI key) = true) from pb_3 c_13 c_5), if_neg (fun q => by omega), if_pos ⟨ch_iff.mpr hb_64, by omega⟩, if_neg (fun q => by rw [e_86] at q; exact absurd q.1 (by decide))], rfl, by rw [rd, if_pos rfl, if_neg (show ¬ (isPb a T σ.1 σ.2.1 (nI key) = true) from pb_3 c_13 c_5), if_neg (fun q => by omega), if_pos ⟨ch_iff.mpr hb_64, by omega⟩, if_neg (fun q => by rw [e_86] at q; exact absurd q.1 (by decide))]; exact st_86⟩⟩)
              · 
                refine z_if_eqT (pc := 67) C 109 dX5_readPiece_67 (by decide) (by decide) ?_
                refine z_iconstN (pc := 109) C 0 dX5_readPiece_109 ?_
                exact z_zret (pc := 110) C ρ dX5_readPiece_110 (by decide) (⟨_, rfl, rfl, frR.rf, Or.inr ⟨by rw [rd, if_pos rfl, if_neg (show ¬ (isPb a T σ.1 σ.2.1 (nI key) = true) from pb_3 c_13 c_5), if_neg (fun q => by omega), if_neg (fun q => hb_64 (by rw [h.1]; exact ch_iff.mp q.1))], rfl, by rw [rd, if_pos rfl, if_neg (show ¬ (isPb a T σ.1 σ.2.1 (nI key) = true) from pb_3 c_13 c_5), if_neg (fun q => by omega), if_neg (fun q => hb_64 (by rw [h.1]; exact ch_iff.mp q.1))]; exact h.2.2.1.1⟩⟩)
            · 
              refine z_aload_n (pc := 36) C dX5_readPiece_36 rfl ?_
              refine kX5_34 (pc := 37) C dX5_readPiece_37 (c5_step κ.2.1 E S (im) R hR T hT h.2.1 (tE a T (σ).1) (tE_le h.2.2.2.2.2.2.2) h.2.2.1.2.2 (tWb a T (σ).1) (by rw [h.2.2.1.2.1]; exact tk_w (by omega))) hR.1 (by omega) (Nat.le_of_ble_eq_true rfl) (Nat.le_refl _) (Nat.le_refl _) (fun S_37 im_37 h_37 => ?_)
              obtain ⟨rfl, g1_37, g2_37, g3_37, gj_37, gc_37⟩ := h_37
              have st_37 : PC0 a im_37 R T key (r_nx a T (σ)) := PC0_step h g1_37 g2_37 g3_37 gj_37 gc_37
              refine z_aload_n (pc := 40) C dX5_readPiece_40 rfl ?_
              refine z_iload_n (pc := 41) C dX5_readPiece_41 rfl ?_
              refine z_iload_n (pc := 42) C dX5_readPiece_42 rfl ?_
              refine z_iconstN (pc := 43) C 1 dX5_readPiece_43 ?_
              refine z_iaddN (pc := 44) C dX5_readPiece_44 ?_
              refine kX5_84 (pc := 45) C dX5_readPiece_45 (ih.2 im_37 pr (b + 1) (r_nx a T σ) (by omega) (by omega) (by omega) st_37 (show σ.2.2.1.length ≤ tE a T σ.1 by have := tE_ge (a := a) h.2.2.2.2.2.2.2; omega)) hR.1 (by omega) (Nat.le_of_ble_eq_true rfl) (Nat.le_refl _) (Nat.le_refl _) (fun v_45 S_45 im_45 h_45 => ?_)
              obtain ⟨rfl, fr_45, hres_45⟩ := h_45
              rcases hres_45 with ⟨e_45, rfl, st_45⟩ | ⟨e_45, rfl, st_45⟩
              · 
                refine z_if_neT (pc := 48) C 53 dX5_readPiece_48 (by decide) (by decide) ?_
                refine z_aload_n (pc := 53) C dX5_readPiece_53 rfl ?_
                refine z_bipush (v := -4) (pc := 54) C dX5_readPiece_54 (by decide) ?_
                refine kX5_91 (pc := 56) C dX5_readPiece_56 (c5_add κ.2.1 E S im_45 R hR (rd a T (nI key) (d) 5 (pr) (b + 1) (r_nx a T σ)).2.2.2.1.length (by have := rd_len2 hk3 h.2.2.2.2.2.2.2 (tK3 hb_24.1) hlen e_45; omega) st_45.2.2.2.2.2.1 (-4)) hR.1 (by omega) (Nat.le_of_ble_eq_true rfl) (Nat.le_refl _) (Nat.le_refl _) (fun S_56 im_56 h_56 => ?_)
                obtain ⟨rfl, rfl⟩ := h_56
                refine z_iconstN (pc := 59) C 1 dX5_readPiece_59 ?_
                exact z_zret (pc := 60) C ρ dX5_readPiece_60 (by decide) (⟨_, rfl, rfl, (frR.s gc_37).tr (fr_45.tr frR.ad), Or.inl ⟨by rw [rd, if_pos rfl, if_neg (show ¬ (isPb a T σ.1 σ.2.1 (nI key) = true) from pb_3 c_13 c_5), if_pos ⟨ch_iff.mpr hb_24, by omega⟩, if_pos e_45], rfl, by rw [rd, if_pos rfl, if_neg (show ¬ (isPb a T σ.1 σ.2.1 (nI key) = true) from pb_3 c_13 c_5), if_pos ⟨ch_iff.mpr hb_24, by omega⟩, if_pos e_45]; exact PC0_add (c := -10) st_45 cm_not.symm⟩⟩)
              · 
                refine z_if_neF (pc := 48) C 53 dX5_readPiece_48 (by decide) (by decide) ?_
                refine z_iconstN (pc := 51) C 0 dX5_readPiece_51 ?_
                exact z_zret (pc := 52) C ρ dX5_readPiece_52 (by decide) (⟨_, rfl, rfl, (frR.s gc_37).tr fr_45, Or.inr ⟨by rw [rd, if_pos rfl, if_neg (show ¬ (isPb a T σ.1 σ.2.1 (nI key) = true) from pb_3 c_13 c_5), if_pos ⟨ch_iff.mpr hb_24, by omega⟩, if_neg (by rw [e_45]; decide)], rfl, by rw [rd, if_pos rfl, if_neg (show ¬ (isPb a T σ.1 σ.2.1 (nI key) = true) from pb_3 c_13 c_5), if_pos ⟨ch_iff.mpr hb_24, by omega⟩, if_neg (by rw [e_45]; decide)]; exact st_45⟩⟩)
          · 
            refine z_if_eqT (pc := 27) C 61 dX5_readPiece_27 (by decide) (by decide) ?_
            refine z_aload_n (pc := 61) C dX5_readPiece_61 rfl ?_
            refine z_bipushN (pc := 62) C 40 (by decide) dX5_readPiece_62 ?_
            refine kX5_99 (pc := 64) C dX5_readPiece_64 (c5_isSign κ.2.1 E S im R hR T hT h.2.1 σ.1 h.2.2.2.2.2.2.2 σ.2.1 h.tk (nI 40)) hR.1 (by omega) (Nat.le_of_ble_eq_true rfl) (Nat.le_refl _) (Nat.le_refl _) (fun v_64 S_64 im_64 h_64 => ?_)
            rcases h_64 with ⟨hb_64, rfl, rfl, rfl⟩ | ⟨hb_64, rfl, rfl, rfl⟩
            · 
              rw [h.1] at hb_64
              refine z_if_eqF (pc := 67) C 109 dX5_readPiece_67 (by decide) (by decide) ?_
              refine z_iload_n (pc := 70) C dX5_readPiece_70 rfl ?_
              refine z_bipushN (pc := 71) C 8 (by decide) dX5_readPiece_71 ?_
              refine z_icmp_geN (pc := 73) C 109 dX5_readPiece_73 (by decide) (by omega) (by omega) (fun c_73 => ?_) (fun c_73 => ?_)
              · 
                refine z_iconstN (pc := 109) C 0 dX5_readPiece_109 ?_
                exact z_zret (pc := 110) C ρ dX5_readPiece_110 (by decide) (⟨_, rfl, rfl, frR.rf, Or.inr ⟨by rw [rd, if_pos rfl, if_neg (show ¬ (isPb a T σ.1 σ.2.1 (nI key) = true) from pb_3 c_13 c_5), if_neg (fun q => hb_24 (by rw [h.1]; exact ch_iff.mp q.1)), if_neg (fun q => by omega)], rfl, by rw [rd, if_pos rfl, if_neg (show ¬ (isPb a T σ.1 σ.2.1 (nI key) = true) from pb_3 c_13 c_5), if_neg (fun q => hb_24 (by rw [h.1]; exact ch_iff.mp q.1)), if_neg (fun q => by omega)]; exact h.2.2.1.1⟩⟩)
              · 
                refine z_aload_n (pc := 76) C dX5_readPiece_76 rfl ?_
                refine kX5_34 (pc := 77) C dX5_readPiece_77 (c5_step κ.2.1 E S (im) R hR T hT h.2.1 (tE a T (σ).1) (tE_le h.2.2.2.2.2.2.2) h.2.2.1.2.2 (tWb a T (σ).1) (by rw [h.2.2.1.2.1]; exact tk_w (by omega))) hR.1 (by omega) (Nat.le_of_ble_eq_true rfl) (Nat.le_refl _) (Nat.le_refl _) (fun S_77 im_77 h_77 => ?_)
                obtain ⟨rfl, g1_77, g2_77, g3_77, gj_77, gc_77⟩ := h_77
                have st_77 : PC0 a im_77 R T key (r_nx a T (σ)) := PC0_step h g1_77 g2_77 g3_77 gj_77 gc_77
                refine z_aload_n (pc := 80) C dX5_readPiece_80 rfl ?_
                refine z_iconstN (pc := 81) C 0 dX5_readPiece_81 ?_
                refine z_iload_n (pc := 82) C dX5_readPiece_82 rfl ?_
                refine z_iconstN (pc := 83) C 1 dX5_readPiece_83 ?_
                refine z_iaddN (pc := 84) C dX5_readPiece_84 ?_
                refine z_iload_n (pc := 85) C dX5_readPiece_85 rfl ?_
                refine kX5_44 (pc := 86) C dX5_readPiece_86 (ih.1 im_77 0 (pr + 1) b (r_nx a T σ) (by omega) (by omega) (by omega) (by omega) st_77 (show σ.2.2.1.length ≤ tE a T σ.1 by have := tE_ge (a := a) h.2.2.2.2.2.2.2; omega)) hR.1 (by omega) (Nat.le_of_ble_eq_true rfl) (Nat.le_refl _) (Nat.le_refl _) (fun v_86 S_86 im_86 h_86 => ?_)
                obtain ⟨rfl, fr_86, hres_86⟩ := h_86
                rcases hres_86 with ⟨e_86, rfl, st_86⟩ | ⟨e_86, rfl, st_86⟩
                · 
                  refine z_if_eqF (pc := 89) C 101 dX5_readPiece_89 (by decide) (by decide) ?_
                  refine z_aload_n (pc := 92) C dX5_readPiece_92 rfl ?_
                  refine z_bipushN (pc := 93) C 41 (by decide) dX5_readPiece_93 ?_
                  refine kX5_99 (pc := 95) C dX5_readPiece_95 (c5_isSign κ.2.1 E S im_86 R hR T hT st_86.2.1 (rd a T (nI key) (d) 0 (pr + 1) (b) (r_nx a T σ)).2.1 st_86.2.2.2.2.2.2.2 (rd a T (nI key) (d) 0 (pr + 1) (b) (r_nx a T σ)).2.2.1 st_86.tk (nI 41)) hR.1 (by omega) (Nat.le_of_ble_eq_true rfl) (Nat.le_refl _) (Nat.le_refl _) (fun v_95 S_95 im_95 h_95 => ?_)
                  rcases h_95 with ⟨hb_95, rfl, rfl, rfl⟩ | ⟨hb_95, rfl, rfl, rfl⟩
                  · 
                    rw [st_86.1] at hb_95
                    refine z_if_neT (pc := 98) C 103 dX5_readPiece_98 (by decide) (by decide) ?_
                    refine z_aload_n (pc := 103) C dX5_readPiece_103 rfl ?_
                    refine kX5_34 (pc := 104) C dX5_readPiece_104 (c5_step κ.2.1 E S (im_86) R hR T hT st_86.2.1 (tE a T ((rd a T (nI key) (d) 0 (pr + 1) (b) (r_nx a T σ)).2).1) (tE_le st_86.2.2.2.2.2.2.2) st_86.2.2.1.2.2 (tWb a T ((rd a T (nI key) (d) 0 (pr + 1) (b) (r_nx a T σ)).2).1) (by rw [st_86.2.2.1.2.1]; exact tk_w (by have := hb_95.1; omega))) hR.1 (by omega) (Nat.le_of_ble_eq_true rfl) (Nat.le_refl _) (Nat.le_refl _) (fun S_104 im_104 h_104 => ?_)
                    obtain ⟨rfl, g1_104, g2_104, g3_104, gj_104, gc_104⟩ := h_104
                    have st_104 : PC0 a im_104 R T key (r_nx a T ((rd a T (nI key) (d) 0 (pr + 1) (b) (r_nx a T σ)).2)) := PC0_step st_86 g1_104 g2_104 g3_104 gj_104 gc_104
                    refine z_iconstN (pc := 107) C 1 dX5_readPiece_107 ?_
                    exact z_zret (pc := 108) C ρ dX5_readPiece_108 (by decide) (⟨_, rfl, rfl, (frR.s gc_77).tr (fr_86.tr (frR.s gc_104)), Or.inl ⟨by rw [rd, if_pos rfl, if_neg (show ¬ (isPb a T σ.1 σ.2.1 (nI key) = true) from pb_3 c_13 c_5), if_neg (fun q => hb_24 (by rw [h.1]; exact ch_iff.mp q.1)), if_pos ⟨ch_iff.mpr hb_64, by omega⟩, if_pos ⟨e_86, ch_iff.mpr hb_95⟩], rfl, by rw [rd, if_pos rfl, if_neg (show ¬ (isPb a T σ.1 σ.2.1 (nI key) = true) from pb_3 c_13 c_5), if_neg (fun q => hb_24 (by rw [h.1]; exact ch_iff.mp q.1)), if_pos ⟨ch_iff.mpr hb_64, by omega⟩, if_pos ⟨e_86, ch_iff.mpr hb_95⟩]; exact st_104⟩⟩)
                  · 
                    refine z_if_neF (pc := 98) C 103 dX5_readPiece_98 (by decide) (by decide) ?_
                    refine z_iconstN (pc := 101) C 0 dX5_readPiece_101 ?_
                    exact z_zret (pc := 102) C ρ dX5_readPiece_102 (by decide) (⟨_, rfl, rfl, (frR.s gc_77).tr fr_86, Or.inr ⟨by rw [rd, if_pos rfl, if_neg (show ¬ (isPb a T σ.1 σ.2.1 (nI key) = true) from pb_3 c_13 c_5), if_neg (fun q => hb_24 (by rw [h.1]; exact ch_iff.mp q.1)), if_pos ⟨ch_iff.mpr hb_64, by omega⟩, if_neg (fun q => hb_95 (by rw [st_86.1]; exact ch_iff.mp q.2))], rfl, by rw [rd, if_pos rfl, if_neg (show ¬ (isPb a T σ.1 σ.2.1 (nI key) = true) from pb_3 c_13 c_5), if_neg (fun q => hb_24 (by rw [h.1]; exact ch_iff.mp q.1)), if_pos ⟨ch_iff.mpr hb_64, by omega⟩, if_neg (fun q => hb_95 (by rw [st_86.1]; exact ch_iff.mp q.2))]; exact st_86.2.2.1.1⟩⟩)
                · 
                  refine z_if_eqT (pc := 89) C 101 dX5_readPiece_89 (by decide) (by decide) ?_
                  refine z_iconstN (pc := 101) C 0 dX5_readPiece_101 ?_
                  exact z_zret (pc := 102) C ρ dX5_readPiece_102 (by decide) (⟨_, rfl, rfl, (frR.s gc_77).tr fr_86, Or.inr ⟨by rw [rd, if_pos rfl, if_neg (show ¬ (isPb a T σ.1 σ.2.1 (nI key) = true) from pb_3 c_13 c_5), if_neg (fun q => hb_24 (by rw [h.1]; exact ch_iff.mp q.1)), if_pos ⟨ch_iff.mpr hb_64, by omega⟩, if_neg (fun q => by rw [e_86] at q; exact absurd q.1 (by decide))], rfl, by rw [rd, if_pos rfl, if_neg (show ¬ (isPb a T σ.1 σ.2.1 (nI key) = true) from pb_3 c_13 c_5), if_neg (fun q => hb_24 (by rw [h.1]; exact ch_iff.mp q.1)), if_pos ⟨ch_iff.mpr hb_64, by omega⟩, if_neg (fun q => by rw [e_86] at q; exact absurd q.1 (by decide))]; exact st_86⟩⟩)
            · 
              refine z_if_eqT (pc := 67) C 109 dX5_readPiece_67 (by decide) (by decide) ?_
              refine z_iconstN (pc := 109) C 0 dX5_readPiece_109 ?_
              exact z_zret (pc := 110) C ρ dX5_readPiece_110 (by decide) (⟨_, rfl, rfl, frR.rf, Or.inr ⟨by rw [rd, if_pos rfl, if_neg (show ¬ (isPb a T σ.1 σ.2.1 (nI key) = true) from pb_3 c_13 c_5), if_neg (fun q => hb_24 (by rw [h.1]; exact ch_iff.mp q.1)), if_neg (fun q => hb_64 (by rw [h.1]; exact ch_iff.mp q.1))], rfl, by rw [rd, if_pos rfl, if_neg (show ¬ (isPb a T σ.1 σ.2.1 (nI key) = true) from pb_3 c_13 c_5), if_neg (fun q => hb_24 (by rw [h.1]; exact ch_iff.mp q.1)), if_neg (fun q => hb_64 (by rw [h.1]; exact ch_iff.mp q.1))]; exact h.2.2.1.1⟩⟩)
        · 
          refine z_aload_n (pc := 16) C dX5_readPiece_16 rfl ?_
          refine kX5_95 (pc := 17) C dX5_readPiece_17 (c5_readOperand κ.2.1 E S im R hR T hT key hk3 a σ h hlen (Or.inl c_13)) hR.1 (by omega) (Nat.le_of_ble_eq_true rfl) (Nat.le_refl _) (Nat.le_refl _) (fun v_17 S_17 im_17 h_17 => ?_)
          obtain ⟨rfl, hfr, hres⟩ := h_17
          have hrd : rd a T (nI key) (d + 1) 5 (pr) (b) (σ) = (if isPb a T σ.1 σ.2.1 (nI key) = true then (true, r_pt a T (nI key) σ) else (false, σ)) := by
            rw [rd, if_pos rfl]
            by_cases hq : isPb a T σ.1 σ.2.1 (nI key) = true
            · rw [if_pos hq, if_pos hq]
            · rw [if_neg hq, if_neg hq, if_neg (fun q => by have := (ch_iff.mp q.1).1; omega), if_neg (fun q => by have := (ch_iff.mp q.1).1; omega)]
          rw [← hrd] at hres
          rcases hres with ⟨e1, rfl, e3⟩ | ⟨e1, rfl, e3⟩
          · exact z_zret (pc := 20) C ρ dX5_readPiece_20 (by decide) (⟨_, rfl, rfl, hfr, Or.inl ⟨e1, rfl, e3⟩⟩)
          · exact z_zret (pc := 20) C ρ dX5_readPiece_20 (by decide) (⟨_, rfl, rfl, hfr, Or.inr ⟨e1, rfl, e3⟩⟩)
    refine ⟨?_, hpc⟩
    intro im lv pr b σ hlv hpr hb hd h hlen
    by_cases h5 : lv = 5
    · subst h5
      refine Mt.of (by decide +kernel) rfl rfl (Nat.le_of_ble_eq_true rfl) ?_
      intro κ hκ C ρ
      subst hκ
      show V E κ 7 0 0 0 [some (.ref R), some (.int (nI 5)), some (.int (nI pr)), some (.int (nI b)), none, none, none] [] S im
      refine z_iload_n (pc := 0) C dX5_readLevel_0 rfl ?_
      refine z_iconstN (pc := 1) C 4 dX5_readLevel_1 ?_
      refine z_icmp_leF (pc := 2) C 12 dX5_readLevel_2 (by decide) (nI_ge (by omega) (by omega)) ?_
      refine z_aload_n (pc := 5) C dX5_readLevel_5 rfl ?_
      refine z_iload_n (pc := 6) C dX5_readLevel_6 rfl ?_
      refine z_iload_n (pc := 7) C dX5_readLevel_7 rfl ?_
      refine kX5_84 (pc := 8) C dX5_readLevel_8 (hpc im pr b σ (by omega) (by omega) (by omega) h hlen) hR.1 (by omega) (Nat.le_of_ble_eq_true rfl) (Nat.le_refl _) (Nat.le_refl _) (fun v_8 S_8 im_8 h_8 => ?_)
      obtain ⟨rfl, hfr, hres⟩ := h_8
      rcases hres with ⟨e1, rfl, e3⟩ | ⟨e1, rfl, e3⟩
      · exact z_zret (pc := 11) C ρ dX5_readLevel_11 (by decide) (⟨_, rfl, rfl, hfr, Or.inl ⟨e1, rfl, e3⟩⟩)
      · exact z_zret (pc := 11) C ρ dX5_readLevel_11 (by decide) (⟨_, rfl, rfl, hfr, Or.inr ⟨e1, rfl, e3⟩⟩)
    · refine Mt.of (by decide +kernel) rfl rfl (Nat.le_of_ble_eq_true rfl) ?_
      intro κ hκ C ρ
      subst hκ
      show V E κ 7 0 0 0 [some (.ref R), some (.int (nI lv)), some (.int (nI pr)), some (.int (nI b)), none, none, none] [] S im
      have loop : ∀ mo : Nat, mo ≤ 96 → ∀ (r i : Nat) (im' : Mem) (τ : RS) (y6 : Option Value), i + r = mo → rd a T (nI key) (d + 1) lv (pr) (b) (σ) = r_rows (rd a T (nI key) d (lv + 1) pr b) a T lv r (τ) → PC0 a im' R T key τ → τ.2.2.1.length ≤ τ.1 → frR R im im' → V E κ 7 0 0 42 [some (.ref R), some (.int (nI lv)), some (.int (nI pr)), some (.int (nI b)), some (.int (nI mo)), some (.int (nI i)), y6] [] S im' := by
        intro mo hmo r
        induction r with
        | zero =>
          intro i im' τ y6 hi hans h' hlen' hfr
          refine z_iload (pc := 42) C dX5_readLevel_42 rfl ?_
          refine z_iload (pc := 44) C dX5_readLevel_44 rfl ?_
          refine z_icmp_geT (pc := 46) C 93 dX5_readLevel_46 (by decide) (nI_le (by omega) (by omega)) ?_
          refine z_iconstN (pc := 93) C 1 dX5_readLevel_93 ?_
          exact z_zret (pc := 94) C ρ dX5_readLevel_94 (by decide) (⟨_, rfl, rfl, hfr, Or.inl ⟨by rw [hans]; rfl, rfl, by rw [hans]; exact h'⟩⟩)
        | succ r ih2 =>
          intro i im' τ y6 hi hans h' hlen' hfr
          refine z_iload (pc := 42) C dX5_readLevel_42 rfl ?_
          refine z_iload (pc := 44) C dX5_readLevel_44 rfl ?_
          refine z_icmp_geF (pc := 46) C 93 dX5_readLevel_46 (by decide) (nI_ge (by omega) (by omega)) ?_
          refine z_aload_n (pc := 49) C dX5_readLevel_49 rfl ?_
          refine z_iload_n (pc := 50) C dX5_readLevel_50 rfl ?_
          refine kX5_88 (pc := 51) C dX5_readLevel_51 (c5_workOf κ.2.1 E S im' R hR T hT h'.2.1 τ h'.2.2.2.2.2.2.2 h'.tk lv (by omega)) hR.1 (by omega) (Nat.le_of_ble_eq_true rfl) (Nat.le_refl _) (Nat.le_refl _) (fun v_51 S_51 im_51 h_51 => ?_)
          obtain ⟨rfl, rfl, rfl⟩ := h_51
          rw [h'.1]
          refine z_istore (pc := 54) C dX5_readLevel_54 (by decide) rfl ?_
          refine z_iload (pc := 56) C dX5_readLevel_56 rfl ?_
          refine z_if_ne (pc := 58) C 63 dX5_readLevel_58 (by decide) (fun c_58 => ?_) (fun c_58 => ?_)
          · 
            have hwk : ¬ r_wk a T lv τ = 0 := fun q => c_58 (wk_ne.mpr q)
            have hk3' := r_sg_s (r_wk_s hwk).1
            refine z_aload_n (pc := 63) C dX5_readLevel_63 rfl ?_
            refine kX5_34 (pc := 64) C dX5_readLevel_64 (c5_step κ.2.1 E S (im') R hR T hT h'.2.1 (tE a T (τ).1) (tE_le h'.2.2.2.2.2.2.2) h'.2.2.1.2.2 (tWb a T (τ).1) (by rw [h'.2.2.1.2.1]; exact tk_w (by omega))) hR.1 (by omega) (Nat.le_of_ble_eq_true rfl) (Nat.le_refl _) (Nat.le_refl _) (fun S_64 im_64 h_64 => ?_)
            obtain ⟨rfl, g1_64, g2_64, g3_64, gj_64, gc_64⟩ := h_64
            have st_64 : PC0 a im_64 R T key (r_nx a T (τ)) := PC0_step h' g1_64 g2_64 g3_64 gj_64 gc_64
            refine z_aload_n (pc := 67) C dX5_readLevel_67 rfl ?_
            refine z_iload_n (pc := 68) C dX5_readLevel_68 rfl ?_
            refine z_iconstN (pc := 69) C 1 dX5_readLevel_69 ?_
            refine z_iaddN (pc := 70) C dX5_readLevel_70 ?_
            refine z_iload_n (pc := 71) C dX5_readLevel_71 rfl ?_
            refine z_iload_n (pc := 72) C dX5_readLevel_72 rfl ?_
            refine kX5_44 (pc := 73) C dX5_readLevel_73 (ih.1 im_64 (lv + 1) pr b (r_nx a T τ) (by omega) (by omega) (by omega) (by omega) st_64 (show τ.2.2.1.length ≤ tE a T τ.1 by have := tE_ge (a := a) h'.2.2.2.2.2.2.2; omega)) hR.1 (by omega) (Nat.le_of_ble_eq_true rfl) (Nat.le_refl _) (Nat.le_refl _) (fun v_73 S_73 im_73 h_73 => ?_)
            obtain ⟨rfl, fr_73, hres_73⟩ := h_73
            rcases hres_73 with ⟨e_73, rfl, st_73⟩ | ⟨e_73, rfl, st_73⟩
            · 
              refine z_if_neT (pc := 76) C 81 dX5_readLevel_76 (by decide) (by decide) ?_
              refine z_aload_n (pc := 81) C dX5_readLevel_81 rfl ?_
              refine z_iload (pc := 82) C dX5_readLevel_82 rfl ?_
              refine kX5_91 (pc := 84) C dX5_readLevel_84 (c5_add κ.2.1 E S im_73 R hR (rd a T (nI key) (d) (lv + 1) (pr) (b) (r_nx a T τ)).2.2.2.1.length (by have := rd_len2 hk3 h'.2.2.2.2.2.2.2 (tK3 hk3') hlen' e_73; omega) st_73.2.2.2.2.2.1 (wkV a T lv τ)) hR.1 (by omega) (Nat.le_of_ble_eq_true rfl) (Nat.le_refl _) (Nat.le_refl _) (fun S_84 im_84 h_84 => ?_)
              obtain ⟨rfl, rfl⟩ := h_84
              refine z_iincN (pc := 87) C 1 dX5_readLevel_87 rfl (by decide) rfl ?_
              refine z_goto (pc := 90) C 42 dX5_readLevel_90 (by decide) ?_
              refine ih2 (i + 1) _ (r_ap (rd a T (nI key) (d) (lv + 1) (pr) (b) (r_nx a T τ)).2 [r_wk a T lv τ]) _ (by omega) ?_ (PC0_add st_73 (wk_cm hwk)) ?_ (hfr.tr ((frR.s gc_64).tr (fr_73.tr frR.ad)))
              · rw [hans, r_rows, if_neg hwk, if_pos e_73]
              · have h9 := rd_len2 hk3 h'.2.2.2.2.2.2.2 (tK3 hk3') hlen' e_73
                show ((rd a T (nI key) (d) (lv + 1) (pr) (b) (r_nx a T τ)).2.2.2.1 ++ [r_wk a T lv τ]).length ≤ (rd a T (nI key) (d) (lv + 1) (pr) (b) (r_nx a T τ)).2.1
                rw [List.length_append, List.length_singleton]
                omega
            · 
              refine z_if_neF (pc := 76) C 81 dX5_readLevel_76 (by decide) (by decide) ?_
              refine z_iconstN (pc := 79) C 0 dX5_readLevel_79 ?_
              exact z_zret (pc := 80) C ρ dX5_readLevel_80 (by decide) (⟨_, rfl, rfl, hfr.tr ((frR.s gc_64).tr fr_73), Or.inr ⟨by rw [hans, r_rows, if_neg hwk, if_neg (by rw [e_73]; decide)], rfl, by rw [hans, r_rows, if_neg hwk, if_neg (by rw [e_73]; decide)]; exact st_73⟩⟩)
          · 
            refine z_iconstN (pc := 61) C 1 dX5_readLevel_61 ?_
            exact z_zret (pc := 62) C ρ dX5_readLevel_62 (by decide) (⟨_, rfl, rfl, hfr, Or.inl ⟨by rw [hans, r_rows, if_pos (wk_ne.mp c_58)], rfl, by rw [hans, r_rows, if_pos (wk_ne.mp c_58)]; exact h'⟩⟩)
      refine z_iload_n (pc := 0) C dX5_readLevel_0 rfl ?_
      refine z_iconstN (pc := 1) C 4 dX5_readLevel_1 ?_
      refine z_icmp_leT (pc := 2) C 12 dX5_readLevel_2 (by decide) (nI_le (by omega) (by omega)) ?_
      refine z_aload_n (pc := 12) C dX5_readLevel_12 rfl ?_
      refine z_iload_n (pc := 13) C dX5_readLevel_13 rfl ?_
      refine z_iconstN (pc := 14) C 1 dX5_readLevel_14 ?_
      refine z_iaddN (pc := 15) C dX5_readLevel_15 ?_
      refine z_iload_n (pc := 16) C dX5_readLevel_16 rfl ?_
      refine z_iload_n (pc := 17) C dX5_readLevel_17 rfl ?_
      refine kX5_44 (pc := 18) C dX5_readLevel_18 (ih.1 im (lv + 1) pr b (σ) (by omega) (by omega) (by omega) (by omega) h (hlen)) hR.1 (by omega) (Nat.le_of_ble_eq_true rfl) (Nat.le_refl _) (Nat.le_refl _) (fun v_18 S_18 im_18 h_18 => ?_)
      obtain ⟨rfl, fr_18, hres_18⟩ := h_18
      rcases hres_18 with ⟨e_18, rfl, st_18⟩ | ⟨e_18, rfl, st_18⟩
      · 
        refine z_if_neT (pc := 21) C 26 dX5_readLevel_21 (by decide) (by decide) ?_
        refine z_iload_n (pc := 26) C dX5_readLevel_26 rfl ?_
        refine z_iconstN (pc := 27) C 2 dX5_readLevel_27 ?_
        refine z_icmp_neN (pc := 28) C 35 dX5_readLevel_28 (by decide) (by omega) (by omega) (fun c_28 => ?_) (fun c_28 => ?_)
        · 
          refine z_bipushN (pc := 35) C 96 (by decide) dX5_readLevel_35 ?_
          refine z_istore (pc := 37) C dX5_readLevel_37 (by decide) rfl ?_
          refine z_iconstN (pc := 39) C 0 dX5_readLevel_39 ?_
          refine z_istore (pc := 40) C dX5_readLevel_40 (by decide) rfl ?_
          exact loop 96 (by decide) 96 0 im_18 _ _ (by omega) (by rw [rd, if_neg h5, if_pos e_18, if_neg c_28]) st_18 (rd_len hk3 h.2.2.2.2.2.2.2 hlen e_18).1 fr_18
        · 
          refine z_iconstN (pc := 31) C 1 dX5_readLevel_31 ?_
          refine z_goto (pc := 32) C 37 dX5_readLevel_32 (by decide) ?_
          refine z_istore (pc := 37) C dX5_readLevel_37 (by decide) rfl ?_
          refine z_iconstN (pc := 39) C 0 dX5_readLevel_39 ?_
          refine z_istore (pc := 40) C dX5_readLevel_40 (by decide) rfl ?_
          exact loop 1 (by decide) 1 0 im_18 _ _ (by omega) (by rw [rd, if_neg h5, if_pos e_18, if_pos c_28]) st_18 (rd_len hk3 h.2.2.2.2.2.2.2 hlen e_18).1 fr_18
      · 
        refine z_if_neF (pc := 21) C 26 dX5_readLevel_21 (by decide) (by decide) ?_
        refine z_iconstN (pc := 24) C 0 dX5_readLevel_24 ?_
        exact z_zret (pc := 25) C ρ dX5_readLevel_25 (by decide) (⟨_, rfl, rfl, fr_18, Or.inr ⟨by rw [rd, if_neg h5, if_neg (by rw [e_18]; decide)], rfl, by rw [rd, if_neg h5, if_neg (by rw [e_18]; decide)]; exact st_18⟩⟩)
