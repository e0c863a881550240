/-! the reference: the word or sign that is looked at; takesKey, takesPart -/
def tWb (a : Nat → Int32) (T p : Nat) : Bool := decide (¬ tS a T p = T) && (isLb (a (tS a T p)) || isDb (a (tS a T p)))
theorem tWb_iff {a : Nat → Int32} {T p : Nat} : tWb a T p = true ↔ tW a T p := by
  rw [tWb, tW, Bool.and_eq_true, decide_eq_true_eq, Bool.or_eq_true]
theorem tE_le {a : Nat → Int32} {T p : Nat} (h : p ≤ T) : tE a T p ≤ T := by
  have h1 := tS_le (a := a) h
  have h2 := rn_le (a := a) (P := isLb) (T - tS a T p) (tS a T p)
  have h3 := rn_le (a := a) (P := isDb) (T - tS a T p) (tS a T p)
  rw [tE]
  split
  · exact h1
  · split
    · omega
    · split <;> omega
theorem rn_gt {a : Nat → Int32} {P : Int32 → Bool} {r p : Nat} (h : 0 < r) (hp : P (a p) = true) : p < rn a P r p := by
  cases r with
  | zero => omega
  | succ r => rw [rn, if_pos hp]; have := rn_ge (a := a) (P := P) r (p + 1); omega
theorem tE_gt {a : Nat → Int32} {T p : Nat} (h : p ≤ T) (hs : ¬ tS a T p = T) : tS a T p < tE a T p := by
  have h1 := tS_le (a := a) h
  rw [tE, if_neg hs]
  split
  · rename_i hp; exact rn_gt (by omega) hp
  · split
    · rename_i hp; exact rn_gt (by omega) hp
    · omega
/-- what is looked at: what stands behind place p, and w: a word ended there -/
def Tk (M : Nat) (im : Mem) (T p : Nat) (w : Bool) : Prop := im M 13 = nI (tS (im (M + 9)) T p) ∧ im M 14 = nI (tK (im (M + 9)) T p w) ∧ im M 12 = nI (tE (im (M + 9)) T p) ∧ (¬ tS (im (M + 9)) T p = T → im M 15 = tV (im (M + 9)) T p) ∧ (¬ tS (im (M + 9)) T p = T → wOk (im M 16) (tE (im (M + 9)) T p) (tWb (im (M + 9)) T p))
theorem gGo_Tk {M : Nat} {im im' : Mem} {T p : Nat} {w : Bool} (hT : T ≤ 96) (hp : p ≤ T) (hw : wOk (im M 16) p w) (h : gGo M im T p w im') : Tk M im' T p w := by
  obtain ⟨h13, h14, h12, hW, hn, h15, hk, hc⟩ := h
  have e9 : im' (M + 9) = im (M + 9) := hc _ (by omega)
  show _ ∧ _
  rw [e9]
  refine ⟨h13, h14, h12, h15, fun hs => ?_⟩
  have hgt := tE_gt hp hs
  have hge := tS_ge (im (M + 9)) T p
  by_cases e : tW (im (M + 9)) T p
  · refine ⟨fun _ => hW e, fun h => ?_⟩
    rw [tWb_iff.mpr e] at h
    exact absurd h (by decide)
  · refine ⟨fun h => absurd (tWb_iff.mp h) e, fun _ j hj hj2 => ?_⟩
    rw [hn e]
    cases w with
    | true => rw [hw.1 rfl, nI_eq (by omega) (by have := tE_le (a := im (M + 9)) hp; omega)]; omega
    | false => exact hw.2 rfl j (by omega) hj2
theorem Tk_fr {M : Nat} {im im' : Mem} {T p : Nat} {w : Bool} (h : Tk M im T p w) (h9 : im' (M + 9) = im (M + 9)) (hk : ∀ j, 12 ≤ j → j ≤ 16 → im' M j = im M j) : Tk M im' T p w := by
  simp only [Tk] at h ⊢
  rw [h9, hk 12 (by omega) (by omega), hk 13 (by omega) (by omega), hk 14 (by omega) (by omega), hk 15 (by omega) (by omega), hk 16 (by omega) (by omega)]
  exact h
def kb (w : Nat) : Nat := if w = 0 then 0 else if w = 1 then 4 else if w = 2 then 7 else 11
def ky (j : Nat) : Int32 := nI ([98, 117, 114, 110, 102, 101, 101, 102, 105, 110, 101].getD j 0)
def kmB (a : Nat → Int32) (s w : Nat) : Nat → Bool
  | 0 => true
  | k + 1 => kmB a s w k && decide (a (s + k) = ky (kb w + k))
def kB (a : Nat → Int32) (s e w : Nat) : Bool := decide (kb (w + 1) - kb w = e - s) && kmB a s w (kb (w + 1) - kb w)
def s_keyF (a : Nat → Int32) (s e : Nat) : Nat → Nat → Nat
  | 0, _ => 3
  | r + 1, w => if kB a s e w = true then w else s_keyF a s e r (w + 1)
theorem kmB_no {a : Nat → Int32} {s w k : Nat} : ∀ n, k < n → ¬ a (s + k) = ky (kb w + k) → kmB a s w n = false := by
  intro n
  induction n with
  | zero => intro h; omega
  | succ n ih =>
    intro h hne
    rw [kmB]
    by_cases e : k = n
    · subst e; rw [decide_eq_false hne, Bool.and_false]
    · rw [ih (by omega) hne, Bool.false_and]
/-- the keys stand in the reference's rows -/
def KyOk (M : Nat) (im : Mem) : Prop := (∀ w, w < 4 → im (M + 11) w = nI (kb w)) ∧ ∀ j, j < 11 → im (M + 10) j = ky j
theorem kb_mono {w : Nat} (h : w < 3) : kb w ≤ kb (w + 1) ∧ kb (w + 1) ≤ 11 ∧ kb (w + 1) - kb w ≤ 4 := by
  rcases (show w = 0 ∨ w = 1 ∨ w = 2 by omega) with rfl | rfl | rfl <;> decide
theorem tK_le (a : Nat → Int32) (T p : Nat) (w : Bool) : tK a T p w ≤ 4 := by unfold tK; repeat (first | (split; decide) | split | decide)
set_option maxRecDepth 100000 in
set_option maxHeartbeats 4000000 in
theorem m7_takesKey (l : Launch) (E : Ex) (S : Sx) (im : Mem) (M : Nat) (hM : ML S M) (T : Nat) (hT : T ≤ 96) (ht : im M 11 = nI T) (p : Nat) (hp : p ≤ T) (w : Bool) (hk : Tk M im T p w) (hky : KyOk M im) : Mt l E yX7_takesKey cX7_takesKey 5 (some .boolean) 3 0 0 [.ref M] S im (pI (fun v S' im' => ((¬ tK (im (M + 9)) T p w = 1 ∨ s_keyF (im (M + 9)) (tS (im (M + 9)) T p) (tE (im (M + 9)) T p) 3 0 = 3) ∧ nI 0 = v ∧ S = S' ∧ im = im') ∨ (tK (im (M + 9)) T p w = 1 ∧ s_keyF (im (M + 9)) (tS (im (M + 9)) T p) (tE (im (M + 9)) T p) 3 0 < 3 ∧ nI 1 = v ∧ S = S' ∧ im' M 17 = nI (s_keyF (im (M + 9)) (tS (im (M + 9)) T p) (tE (im (M + 9)) T p) 3 0) ∧ Tk M im' T (tE (im (M + 9)) T p) true ∧ (∀ j, j < 12 ∨ 17 < j → im' M j = im M j) ∧ ∀ c, c ≠ M → im' c = im c))) := by
  refine Mt.of (by decide +kernel) rfl rfl (Nat.le_of_ble_eq_true rfl) ?_
  intro κ hκ C ρ
  subst hκ
  show V E κ 5 0 0 0 [some (.ref M), none, none, none, none] [] S im
  refine z_aload_n (pc := 0) C dX7_takesKey_0 rfl ?_
  refine gX7_215 (pc := 1) C dX7_takesKey_1 (ml_K hM) ?_
  refine z_eqi (y := nI (tK (im (M + 9)) T p w)) (hk.2.1) ?_
  refine z_iconstN (pc := 4) C 1 dX7_takesKey_4 ?_
  refine z_icmp_eqN (pc := 5) C 10 dX7_takesKey_5 (by decide) (by have := tK_le (im (M + 9)) T p w; omega) (by omega) (fun c_5 => ?_) (fun c_5 => ?_)
  · 
    have hK1 : tK (im (M + 9)) T p w = 1 := c_5
    have hsT : ¬ tS (im (M + 9)) T p = T := fun h => by rw [tK, if_pos h] at hK1; exact absurd hK1 (by decide)
    have hwb : tWb (im (M + 9)) T p = true := by
      rw [tK, if_neg hsT] at hK1
      rw [tWb, decide_eq_true hsT, Bool.true_and, Bool.or_eq_true]
      by_cases hl : isLb (im (M + 9) (tS (im (M + 9)) T p)) = true
      · exact Or.inl hl
      · rw [if_neg hl] at hK1
        by_cases hd : isDb (im (M + 9) (tS (im (M + 9)) T p)) = true
        · exact Or.inr hd
        · rw [if_neg hd] at hK1; exact absurd hK1 (by decide)
    have hse : tS (im (M + 9)) T p ≤ tE (im (M + 9)) T p := Nat.le_of_lt (tE_gt hp hsT)
    have hsT2 := tS_le (a := im (M + 9)) hp
    have heT := tE_le (a := im (M + 9)) hp
    have fnd : ∀ (q k : Nat), q < 3 → s_keyF (im (M + 9)) (tS (im (M + 9)) T p) (tE (im (M + 9)) T p) 3 0 = q → k ≤ 4 → V E κ 5 0 0 106 [some (.ref M), some (.int (nI q)), some (.int (nI (kb (q + 1) - kb q))), some (.int (nI 1)), some (.int (nI k))] [] S im := by
      intro q k hq hfd hk4
      refine z_iload_n (pc := 106) C dX7_takesKey_106 rfl ?_
      refine z_if_eqF (pc := 107) C 121 dX7_takesKey_107 (by decide) (by decide) ?_
      refine z_aload_n (pc := 110) C dX7_takesKey_110 rfl ?_
      refine z_iload_n (pc := 111) C dX7_takesKey_111 rfl ?_
      refine pX7_227 (pc := 112) C dX7_takesKey_112 (ml_K hM) ?_
      refine z_aload_n (pc := 115) C dX7_takesKey_115 rfl ?_
      refine kX7_230 (pc := 116) C dX7_takesKey_116 (m7_go κ.2.1 E S (up2 im M 17 (nI q)) M hM T hT (by rw [up2_at, if_neg (by decide)]; exact ht) (tE (im (M + 9)) T p) (tE_le hp) (by rw [up2_at, if_neg (by decide)]; exact hk.2.2.1) true (by rw [up2_at, if_neg (by decide), ← hwb]; exact hk.2.2.2.2 hsT)) (ml_K hM) (by decide) (Nat.le_of_ble_eq_true rfl) (Nat.le_refl _) (Nat.le_refl _) (fun S_116 im_116 h_116 => ?_)
      obtain ⟨rfl, hgo⟩ := h_116
      have hTk := gGo_Tk hT (tE_le hp) (by rw [up2_at, if_neg (by decide), ← hwb]; exact hk.2.2.2.2 hsT) hgo
      refine z_iconstN (pc := 119) C 1 dX7_takesKey_119 ?_
      exact z_zret (pc := 120) C ρ dX7_takesKey_120 (by decide) (⟨_, rfl, Or.inr ⟨hK1, by rw [hfd]; exact hq, rfl, rfl, by rw [hgo.2.2.2.2.2.2.1 17 (by decide) (by decide) (by decide) (by decide) (by decide), up2_at, if_pos rfl, hfd], hTk, fun j hj => by rw [hgo.2.2.2.2.2.2.1 j (by omega) (by omega) (by omega) (by omega) (by omega), up2_at, if_neg (by omega)], fun c hc => by rw [hgo.2.2.2.2.2.2.2 c hc, up2_n _ _ _ hc]⟩⟩)
    have loop : ∀ (r q : Nat) (y2 y3 y4 : Option Value), q + r = 3 → s_keyF (im (M + 9)) (tS (im (M + 9)) T p) (tE (im (M + 9)) T p) r q = s_keyF (im (M + 9)) (tS (im (M + 9)) T p) (tE (im (M + 9)) T p) 3 0 → V E κ 5 0 0 12 [some (.ref M), some (.int (nI q)), y2, y3, y4] [] S im := by
      intro r
      induction r with
      | zero =>
        intro q y2 y3 y4 hq hans
        refine z_iload_n (pc := 12) C dX7_takesKey_12 rfl ?_
        refine z_iconstN (pc := 13) C 3 dX7_takesKey_13 ?_
        refine z_icmp_geT (pc := 14) C 127 dX7_takesKey_14 (by decide) (nI_le (by omega) (by omega)) ?_
        refine z_iconstN (pc := 127) C 0 dX7_takesKey_127 ?_
        exact z_zret (pc := 128) C ρ dX7_takesKey_128 (by decide) (⟨_, rfl, Or.inl ⟨Or.inr (by rw [← hans, s_keyF]), rfl, rfl, rfl⟩⟩)
      | succ r iho =>
        intro q y2 y3 y4 hq hans
        have hq3 : q < 3 := by omega
        have hkb := kb_mono hq3
        have in0 : ∀ (k : Nat), k ≤ 4 → s_keyF (im (M + 9)) (tS (im (M + 9)) T p) (tE (im (M + 9)) T p) (r + 1) q = s_keyF (im (M + 9)) (tS (im (M + 9)) T p) (tE (im (M + 9)) T p) r (q + 1) → V E κ 5 0 0 55 [some (.ref M), some (.int (nI q)), some (.int (nI (kb (q + 1) - kb q))), some (.int (nI 0)), some (.int (nI k))] [] S im := by
          intro k hk4 hno
          refine z_iload (pc := 55) C dX7_takesKey_55 rfl ?_
          refine z_iload_n (pc := 57) C dX7_takesKey_57 rfl ?_
          refine z_icmp_geN (pc := 58) C 106 dX7_takesKey_58 (by decide) (by omega) (by omega) (fun c_58 => ?_) (fun c_58 => ?_)
          · 
            refine z_iload_n (pc := 106) C dX7_takesKey_106 rfl ?_
            refine z_if_eqT (pc := 107) C 121 dX7_takesKey_107 (by decide) (by decide) ?_
            refine z_iincN (pc := 121) C 1 dX7_takesKey_121 rfl (by decide) rfl ?_
            refine z_goto (pc := 124) C 12 dX7_takesKey_124 (by decide) ?_
            exact iho (q + 1) _ _ _ (by omega) (by rw [← hno]; exact hans)
          · 
            refine z_iload_n (pc := 61) C dX7_takesKey_61 rfl ?_
            refine z_if_eqT (pc := 62) C 106 dX7_takesKey_62 (by decide) (by decide) ?_
            refine z_iload_n (pc := 106) C dX7_takesKey_106 rfl ?_
            refine z_if_eqT (pc := 107) C 121 dX7_takesKey_107 (by decide) (by decide) ?_
            refine z_iincN (pc := 121) C 1 dX7_takesKey_121 rfl (by decide) rfl ?_
            refine z_goto (pc := 124) C 12 dX7_takesKey_124 (by decide) ?_
            exact iho (q + 1) _ _ _ (by omega) (by rw [← hno]; exact hans)
        have in1 : kb (q + 1) - kb q = tE (im (M + 9)) T p - tS (im (M + 9)) T p → ∀ (u k : Nat), k + u = kb (q + 1) - kb q → kmB (im (M + 9)) (tS (im (M + 9)) T p) q k = true → V E κ 5 0 0 55 [some (.ref M), some (.int (nI q)), some (.int (nI (kb (q + 1) - kb q))), some (.int (nI 1)), some (.int (nI k))] [] S im := by
          intro hne u
          induction u with
          | zero =>
            intro k hku hkm
            refine z_iload (pc := 55) C dX7_takesKey_55 rfl ?_
            refine z_iload_n (pc := 57) C dX7_takesKey_57 rfl ?_
            refine z_icmp_geT (pc := 58) C 106 dX7_takesKey_58 (by decide) (nI_le (by omega) (by omega)) ?_
            exact fnd q k hq3 (by rw [← hans]; exact if_pos (by rw [kB, Bool.and_eq_true, decide_eq_true_eq]; exact ⟨hne, by rw [show kb (q + 1) - kb q = k by omega]; exact hkm⟩)) (by omega)
          | succ u ih =>
            intro k hku hkm
            refine z_iload (pc := 55) C dX7_takesKey_55 rfl ?_
            refine z_iload_n (pc := 57) C dX7_takesKey_57 rfl ?_
            refine z_icmp_geF (pc := 58) C 106 dX7_takesKey_58 (by decide) (nI_ge (by omega) (by omega)) ?_
            refine z_iload_n (pc := 61) C dX7_takesKey_61 rfl ?_
            refine z_if_eqF (pc := 62) C 106 dX7_takesKey_62 (by decide) (by decide) ?_
            refine z_aload_n (pc := 65) C dX7_takesKey_65 rfl ?_
            refine gX7_39 (pc := 66) C dX7_takesKey_66 (ml_K hM) (ml_r10 hM) ?_
            refine z_aload_n (pc := 69) C dX7_takesKey_69 rfl ?_
            refine gX7_209 (pc := 70) C dX7_takesKey_70 (ml_K hM) ?_
            refine z_eqi (y := nI (tS (im (M + 9)) T p)) (hk.1) ?_
            refine z_iload (pc := 73) C dX7_takesKey_73 rfl ?_
            refine z_iaddN (pc := 75) C dX7_takesKey_75 ?_
            refine z_iald (pc := 76) C dX7_takesKey_76 (ml_a9 hM) (ml_n9 hM) (by omega) (by decide) ?_
            refine z_aload_n (pc := 77) C dX7_takesKey_77 rfl ?_
            refine gX7_42 (pc := 78) C dX7_takesKey_78 (ml_K hM) (ml_r18 hM) ?_
            refine z_aload_n (pc := 81) C dX7_takesKey_81 rfl ?_
            refine gX7_46 (pc := 82) C dX7_takesKey_82 (ml_K hM) (ml_r19 hM) ?_
            refine z_iload_n (pc := 85) C dX7_takesKey_85 rfl ?_
            refine z_iald (pc := 86) C dX7_takesKey_86 (ml_a11 hM) (ml_n11 hM) (by omega) (by decide) ?_
            refine z_eqi (y := nI (kb q)) (hky.1 q (by omega)) ?_
            refine z_iload (pc := 87) C dX7_takesKey_87 rfl ?_
            refine z_iaddN (pc := 89) C dX7_takesKey_89 ?_
            refine z_cald (pc := 90) C dX7_takesKey_90 (ml_a10 hM) (ml_n10 hM) (by omega) (by decide) ?_
            refine z_eqi (y := ky (kb q + k)) (hky.2 _ (by omega)) ?_
            refine z_icmp_ne (pc := 91) C 98 dX7_takesKey_91 (by decide) (fun c_91 => ?_) (fun c_91 => ?_)
            · 
              refine z_iconstN (pc := 98) C 0 dX7_takesKey_98 ?_
              refine z_istore_n (pc := 99) C dX7_takesKey_99 (by decide) rfl ?_
              refine z_iincN (pc := 100) C 1 dX7_takesKey_100 rfl (by decide) rfl ?_
              refine z_goto (pc := 103) C 55 dX7_takesKey_103 (by decide) ?_
              exact in0 (k + 1) (by omega) (if_neg (by rw [kB, kmB_no (k := k) _ (by omega) c_91, Bool.and_false]; decide))
            · 
              refine z_iconstN (pc := 94) C 1 dX7_takesKey_94 ?_
              refine z_goto (pc := 95) C 99 dX7_takesKey_95 (by decide) ?_
              refine z_istore_n (pc := 99) C dX7_takesKey_99 (by decide) rfl ?_
              refine z_iincN (pc := 100) C 1 dX7_takesKey_100 rfl (by decide) rfl ?_
              refine z_goto (pc := 103) C 55 dX7_takesKey_103 (by decide) ?_
              exact ih (k + 1) (by omega) (by rw [kmB, hkm, Bool.true_and, decide_eq_true_eq]; exact c_91)
        refine z_iload_n (pc := 12) C dX7_takesKey_12 rfl ?_
        refine z_iconstN (pc := 13) C 3 dX7_takesKey_13 ?_
        refine z_icmp_geF (pc := 14) C 127 dX7_takesKey_14 (by decide) (nI_ge (by omega) (by omega)) ?_
        refine z_aload_n (pc := 17) C dX7_takesKey_17 rfl ?_
        refine gX7_46 (pc := 18) C dX7_takesKey_18 (ml_K hM) (ml_r19 hM) ?_
        refine z_iload_n (pc := 21) C dX7_takesKey_21 rfl ?_
        refine z_iconstN (pc := 22) C 1 dX7_takesKey_22 ?_
        refine z_iaddN (pc := 23) C dX7_takesKey_23 ?_
        refine z_iald (pc := 24) C dX7_takesKey_24 (ml_a11 hM) (ml_n11 hM) (by omega) (by decide) ?_
        refine z_eqi (y := nI (kb (q + 1))) (hky.1 (q + 1) (by omega)) ?_
        refine z_aload_n (pc := 25) C dX7_takesKey_25 rfl ?_
        refine gX7_46 (pc := 26) C dX7_takesKey_26 (ml_K hM) (ml_r19 hM) ?_
        refine z_iload_n (pc := 29) C dX7_takesKey_29 rfl ?_
        refine z_iald (pc := 30) C dX7_takesKey_30 (ml_a11 hM) (ml_n11 hM) (by omega) (by decide) ?_
        refine z_eqi (y := nI (kb q)) (hky.1 q (by omega)) ?_
        refine z_isubN (pc := 31) C dX7_takesKey_31 ((kb_mono hq3).1) ?_
        refine z_istore_n (pc := 32) C dX7_takesKey_32 (by decide) rfl ?_
        refine z_iload_n (pc := 33) C dX7_takesKey_33 rfl ?_
        refine z_aload_n (pc := 34) C dX7_takesKey_34 rfl ?_
        refine gX7_206 (pc := 35) C dX7_takesKey_35 (ml_K hM) ?_
        refine z_eqi (y := nI (tE (im (M + 9)) T p)) (hk.2.2.1) ?_
        refine z_aload_n (pc := 38) C dX7_takesKey_38 rfl ?_
        refine gX7_209 (pc := 39) C dX7_takesKey_39 (ml_K hM) ?_
        refine z_eqi (y := nI (tS (im (M + 9)) T p)) (hk.1) ?_
        refine z_isubN (pc := 42) C dX7_takesKey_42 (by omega) ?_
        refine z_icmp_neN (pc := 43) C 50 dX7_takesKey_43 (by decide) (by omega) (by omega) (fun c_43 => ?_) (fun c_43 => ?_)
        · 
          refine z_iconstN (pc := 50) C 0 dX7_takesKey_50 ?_
          refine z_istore_n (pc := 51) C dX7_takesKey_51 (by decide) rfl ?_
          refine z_iconstN (pc := 52) C 0 dX7_takesKey_52 ?_
          refine z_istore (pc := 53) C dX7_takesKey_53 (by decide) rfl ?_
          exact in0 0 (by omega) (if_neg (by rw [kB, decide_eq_false c_43, Bool.false_and]; decide))
        · 
          refine z_iconstN (pc := 46) C 1 dX7_takesKey_46 ?_
          refine z_goto (pc := 47) C 51 dX7_takesKey_47 (by decide) ?_
          refine z_istore_n (pc := 51) C dX7_takesKey_51 (by decide) rfl ?_
          refine z_iconstN (pc := 52) C 0 dX7_takesKey_52 ?_
          refine z_istore (pc := 53) C dX7_takesKey_53 (by decide) rfl ?_
          exact in1 c_43 _ 0 (Nat.zero_add _) rfl
    refine z_iconstN (pc := 10) C 0 dX7_takesKey_10 ?_
    refine z_istore_n (pc := 11) C dX7_takesKey_11 (by decide) rfl ?_
    exact loop 3 0 _ _ _ rfl rfl
  · 
    refine z_iconstN (pc := 8) C 0 dX7_takesKey_8 ?_
    exact z_zret (pc := 9) C ρ dX7_takesKey_9 (by decide) (⟨_, rfl, Or.inl ⟨Or.inl c_5, rfl, rfl, rfl⟩⟩)
