/-! the class: a text worked out -/
/-- a text made at y: its steps, itself, its stack -/
def TXL (S : Sx) (y m u : Nat) : Prop := S.2.1 y = 8 ∧ S.2.2.1 y = m ∧ S.2.1 (y + 1) = 4 ∧ S.2.2.2 (y + 1) 2 = some y ∧ S.2.2.2 (y + 1) 3 = some (y + 2) ∧ S.2.1 (y + 2) = 8 ∧ S.2.2.1 (y + 2) = u
theorem op_lt {j : Nat} (h1 : 1 ≤ j) (h9 : j ≤ 9) : -4 - nI j < -3 ∧ ¬ -4 - nI j = -4 := by
  rcases (show j = 1 ∨ j = 2 ∨ j = 3 ∨ j = 4 ∨ j = 5 ∨ j = 6 ∨ j = 7 ∨ j = 8 ∨ j = 9 by omega) with rfl | rfl | rfl | rfl | rfl | rfl | rfl | rfl | rfl <;> decide +kernel
theorem num_ge {j : Nat} (h : j < 2 ^ 31) : ¬ nI j < -3 := by
  rw [Int32.lt_iff_toInt_lt, nI_toInt h, show (-3 : Int32).toInt = -3 by decide]
  omega
set_option maxRecDepth 100000 in
set_option maxHeartbeats 4000000 in
theorem c4_gives (l : Launch) (E : Ex) (S : Sx) (im : Mem) (y m u : Nat) (ht : TXL S y m u) (g : Nat → Int32) (nn : Nat) (hnn : nn ≤ 3) (hrp : RP nn g m) (hu : cG g m ≤ u ∧ 1 ≤ u ∧ u ≤ 97) (hcs : ∀ k, k < m → im y k = cmC (g k)) (n0 n1 n2 : Int32) : Mt l E yX4_gives cX4_gives 7 (some .int) 2 0 0 [.ref (y + 1), .int n0, .int n1, .int n2] S im (pI (fun v S' im' => (evN (fa3 n0 n1 n2) g m).headD 0 = v ∧ S = S' ∧ ∀ a, a ≠ y + 2 → im' a = im a)) := by
  refine Mt.of (by decide +kernel) rfl rfl (Nat.le_of_ble_eq_true rfl) ?_
  intro κ hκ C ρ
  subst hκ
  show V E κ 7 0 0 0 [some (.ref (y + 1)), some (.int n0), some (.int n1), some (.int n2), none, none, none] [] S im
  have hm96 := hrp.1
  have loop : ∀ (r k d : Nat) (im' : Mem) (y6 : Option Value), k + r = m → d = dpN g k → (∀ a, a ≠ y + 2 → im' a = im a) → stk (im' (y + 2)) (evN (fa3 n0 n1 n2) g k) → V E κ 7 0 0 6 [some (.ref (y + 1)), some (.int n0), some (.int n1), some (.int n2), some (.int (nI d)), some (.int (nI k)), y6] [] S im' := by
    intro r
    induction r with
    | zero =>
      intro k d im' y6 hk hd hf hs
      have hkm : k = m := by omega
      have hans : im' (y + 2) 0 = (evN (fa3 n0 n1 n2) g m).headD 0 := by
        have hl := evN_len (fa := fa3 n0 n1 n2) hnn hrp m (Nat.le_refl _)
        rw [hrp.2.1] at hl
        rw [hkm] at hs
        generalize evN (fa3 n0 n1 n2) g m = st at hs hl
        obtain ⟨x, rfl⟩ : ∃ x, st = [x] := List.length_eq_one_iff.mp hl
        exact stk_top hs
      refine z_iload (pc := 6) C dX4_gives_6 rfl ?_
      refine z_aload_n (pc := 8) C dX4_gives_8 rfl ?_
      refine gX4_16 (pc := 9) C dX4_gives_9 ht.2.2.1 ht.2.2.2.1 ?_
      refine z_alen (pc := 12) C dX4_gives_12 ht.1 ht.2.1 ?_
      refine z_icmp_geT (pc := 13) C 174 dX4_gives_13 (by decide) (nI_le (by omega) (by omega)) ?_
      refine z_aload_n (pc := 174) C dX4_gives_174 rfl ?_
      refine gX4_26 (pc := 175) C dX4_gives_175 ht.2.2.1 ht.2.2.2.2.1 ?_
      refine z_iconstN (pc := 178) C 0 dX4_gives_178 ?_
      refine z_iald (pc := 179) C dX4_gives_179 ht.2.2.2.2.2.1 ht.2.2.2.2.2.2 (by omega) (by omega) ?_
      refine z_eqi (y := (evN (fa3 n0 n1 n2) g m).headD 0) (hans) ?_
      exact z_iret (pc := 180) C ρ dX4_gives_180 (⟨_, rfl, rfl, rfl, hf⟩)
    | succ r ih =>
      intro k d im' y6 hk hd hf hs
      have hrow := hrp.2.2 k (by omega)
      have hlen := evN_len (fa := fa3 n0 n1 n2) hnn hrp k (by omega)
      have hd96 : d ≤ k := by rw [hd]; exact dpN_le _ k
      rw [← hd] at hlen hrow
      have hnext : ∀ x, x = evN (fa3 n0 n1 n2) g (k + 1) → x = evC (fa3 n0 n1 n2) (g k) (evN (fa3 n0 n1 n2) g k) := fun x hx => hx
      generalize hst : evN (fa3 n0 n1 n2) g k = st at hs hlen hnext
      have hcu : d ≤ u := by have h1 := dp_cG g k; have h2 := cG_mono g (k := k) m (by omega); omega
      refine z_iload (pc := 6) C dX4_gives_6 rfl ?_
      refine z_aload_n (pc := 8) C dX4_gives_8 rfl ?_
      refine gX4_16 (pc := 9) C dX4_gives_9 ht.2.2.1 ht.2.2.2.1 ?_
      refine z_alen (pc := 12) C dX4_gives_12 ht.1 ht.2.1 ?_
      refine z_icmp_geF (pc := 13) C 174 dX4_gives_13 (by decide) (nI_ge (by omega) (by omega)) ?_
      refine z_aload_n (pc := 16) C dX4_gives_16 rfl ?_
      refine gX4_16 (pc := 17) C dX4_gives_17 ht.2.2.1 ht.2.2.2.1 ?_
      refine z_iload (pc := 20) C dX4_gives_20 rfl ?_
      refine z_iald (pc := 22) C dX4_gives_22 ht.1 ht.2.1 (by omega) (by omega) ?_
      refine z_eqi (y := cmC (g k)) (by rw [hf _ (by omega)]; exact hcs k (by omega)) ?_
      rcases hrow with ⟨j, hj, e⟩ | ⟨e, hd1⟩ | ⟨j, h3, h4, e, hd1⟩
      · have hg0 : 0 ≤ g k := by rw [e]; exact nI_pos' (by omega)
        have hdu : d < u := by have := dp_lt (m := m) (by omega) hg0; omega
        have hdp : dpN g (k + 1) = d + 1 := by rw [dpN, if_pos hg0, ← hd]
        by_cases hj0 : j < 10000
        · rw [e] at hnext ⊢
          rw [cm_num hj0]
          have hj3 : evC (fa3 n0 n1 n2) (nI j) st = nI j :: st := by unfold evC; rw [if_pos (nI_pos' (by omega)), if_neg (nI_ge hj0 (by omega))]
          refine z_istore (pc := 23) C dX4_gives_23 (by decide) rfl ?_
          refine z_iload (pc := 25) C dX4_gives_25 rfl ?_
          refine z_bipush (v := -3) (pc := 27) C dX4_gives_27 (by decide) ?_
          refine z_icmp_ltF (pc := 29) C 87 dX4_gives_29 (by decide) (num_ge (by omega)) ?_
          refine z_iload (pc := 32) C dX4_gives_32 rfl ?_
          refine z_aload_n (pc := 34) C dX4_gives_34 rfl ?_
          refine gX4_26 (pc := 35) C dX4_gives_35 ht.2.2.1 ht.2.2.2.2.1 ?_
          refine z_alen (pc := 38) C dX4_gives_38 ht.2.2.2.2.2.1 ht.2.2.2.2.2.2 ?_
          refine z_icmp_geF (pc := 39) C 168 dX4_gives_39 (by decide) (nI_ge hdu (by omega)) ?_
          refine z_aload_n (pc := 42) C dX4_gives_42 rfl ?_
          refine gX4_26 (pc := 43) C dX4_gives_43 ht.2.2.1 ht.2.2.2.2.1 ?_
          refine z_iload (pc := 46) C dX4_gives_46 rfl ?_
          refine z_iload (pc := 48) C dX4_gives_48 rfl ?_
          refine z_if_ltF (pc := 50) C 58 dX4_gives_50 (by decide) (nI_pos (by omega)) ?_
          refine z_iload (pc := 53) C dX4_gives_53 rfl ?_
          refine z_goto (pc := 55) C 80 dX4_gives_55 (by decide) ?_
          refine z_iast (pc := 80) C dX4_gives_80 ht.2.2.2.2.2.1 ht.2.2.2.2.2.2 (by omega) (by omega) ?_
          refine z_iincN (pc := 81) C 1 dX4_gives_81 rfl (by decide) rfl ?_
          refine z_goto (pc := 84) C 168 dX4_gives_84 (by decide) ?_
          refine z_iincN (pc := 168) C 1 dX4_gives_168 rfl (by decide) rfl ?_
          refine z_goto (pc := 171) C 6 dX4_gives_171 (by decide) ?_
          refine ih (k + 1) (d + 1) _ _ (by omega) hdp.symm (fun a ha => by rw [up2_n _ _ _ ha]; exact hf a ha) ?_
          rw [up2_s, hnext _ rfl, hj3, ← hlen]
          exact stk_push hs _
        · obtain ⟨i, rfl⟩ : ∃ i, j = 10000 + i := ⟨j - 10000, by omega⟩
          have hi3 : i < 3 := by omega
          rw [e] at hnext ⊢
          rw [cm_name hi3]
          have hj3 : evC (fa3 n0 n1 n2) (nI (10000 + i)) st = (fa3 n0 n1 n2) i :: st := by
            unfold evC
            rw [if_pos (nI_pos' (by omega)), if_pos (nI_le (by omega) (by omega)), pk_sub (by omega), nI_clamp (by omega), show 10000 + i - 10000 = i by omega]
          rcases (show i = 0 ∨ i = 1 ∨ i = 2 by omega) with rfl | rfl | rfl
          · refine z_eqi (y := -1) (by decide) ?_
            refine z_istore (pc := 23) C dX4_gives_23 (by decide) rfl ?_
            refine z_iload (pc := 25) C dX4_gives_25 rfl ?_
            refine z_bipush (v := -3) (pc := 27) C dX4_gives_27 (by decide) ?_
            refine z_icmp_ltF (pc := 29) C 87 dX4_gives_29 (by decide) (by decide) ?_
            refine z_iload (pc := 32) C dX4_gives_32 rfl ?_
            refine z_aload_n (pc := 34) C dX4_gives_34 rfl ?_
            refine gX4_26 (pc := 35) C dX4_gives_35 ht.2.2.1 ht.2.2.2.2.1 ?_
            refine z_alen (pc := 38) C dX4_gives_38 ht.2.2.2.2.2.1 ht.2.2.2.2.2.2 ?_
            refine z_icmp_geF (pc := 39) C 168 dX4_gives_39 (by decide) (nI_ge hdu (by omega)) ?_
            refine z_aload_n (pc := 42) C dX4_gives_42 rfl ?_
            refine gX4_26 (pc := 43) C dX4_gives_43 ht.2.2.1 ht.2.2.2.2.1 ?_
            refine z_iload (pc := 46) C dX4_gives_46 rfl ?_
            refine z_iload (pc := 48) C dX4_gives_48 rfl ?_
            refine z_if_ltT (pc := 50) C 58 dX4_gives_50 (by decide) (by decide) ?_
            refine z_iload (pc := 58) C dX4_gives_58 rfl ?_
            refine z_iconst (v := -1) (pc := 60) C dX4_gives_60 (by decide) ?_
            refine z_icmp_neF (pc := 61) C 68 dX4_gives_61 (by decide) (rfl) ?_
            refine z_iload_n (pc := 64) C dX4_gives_64 rfl ?_
            refine z_goto (pc := 65) C 80 dX4_gives_65 (by decide) ?_
            refine z_iast (pc := 80) C dX4_gives_80 ht.2.2.2.2.2.1 ht.2.2.2.2.2.2 (by omega) (by omega) ?_
            refine z_iincN (pc := 81) C 1 dX4_gives_81 rfl (by decide) rfl ?_
            refine z_goto (pc := 84) C 168 dX4_gives_84 (by decide) ?_
            refine z_iincN (pc := 168) C 1 dX4_gives_168 rfl (by decide) rfl ?_
            refine z_goto (pc := 171) C 6 dX4_gives_171 (by decide) ?_
            refine ih (k + 1) (d + 1) _ _ (by omega) hdp.symm (fun a ha => by rw [up2_n _ _ _ ha]; exact hf a ha) ?_
            rw [up2_s, hnext _ rfl, hj3, ← hlen]
            exact stk_push hs _
          · refine z_eqi (y := -2) (by decide) ?_
            refine z_istore (pc := 23) C dX4_gives_23 (by decide) rfl ?_
            refine z_iload (pc := 25) C dX4_gives_25 rfl ?_
            refine z_bipush (v := -3) (pc := 27) C dX4_gives_27 (by decide) ?_
            refine z_icmp_ltF (pc := 29) C 87 dX4_gives_29 (by decide) (by decide) ?_
            refine z_iload (pc := 32) C dX4_gives_32 rfl ?_
            refine z_aload_n (pc := 34) C dX4_gives_34 rfl ?_
            refine gX4_26 (pc := 35) C dX4_gives_35 ht.2.2.1 ht.2.2.2.2.1 ?_
            refine z_alen (pc := 38) C dX4_gives_38 ht.2.2.2.2.2.1 ht.2.2.2.2.2.2 ?_
            refine z_icmp_geF (pc := 39) C 168 dX4_gives_39 (by decide) (nI_ge hdu (by omega)) ?_
            refine z_aload_n (pc := 42) C dX4_gives_42 rfl ?_
            refine gX4_26 (pc := 43) C dX4_gives_43 ht.2.2.1 ht.2.2.2.2.1 ?_
            refine z_iload (pc := 46) C dX4_gives_46 rfl ?_
            refine z_iload (pc := 48) C dX4_gives_48 rfl ?_
            refine z_if_ltT (pc := 50) C 58 dX4_gives_50 (by decide) (by decide) ?_
            refine z_iload (pc := 58) C dX4_gives_58 rfl ?_
            refine z_iconst (v := -1) (pc := 60) C dX4_gives_60 (by decide) ?_
            refine z_icmp_neT (pc := 61) C 68 dX4_gives_61 (by decide) (by decide) ?_
            refine z_iload (pc := 68) C dX4_gives_68 rfl ?_
            refine z_bipush (v := -3) (pc := 70) C dX4_gives_70 (by decide) ?_
            refine z_icmp_neT (pc := 72) C 79 dX4_gives_72 (by decide) (by decide) ?_
            refine z_iload_n (pc := 79) C dX4_gives_79 rfl ?_
            refine z_iast (pc := 80) C dX4_gives_80 ht.2.2.2.2.2.1 ht.2.2.2.2.2.2 (by omega) (by omega) ?_
            refine z_iincN (pc := 81) C 1 dX4_gives_81 rfl (by decide) rfl ?_
            refine z_goto (pc := 84) C 168 dX4_gives_84 (by decide) ?_
            refine z_iincN (pc := 168) C 1 dX4_gives_168 rfl (by decide) rfl ?_
            refine z_goto (pc := 171) C 6 dX4_gives_171 (by decide) ?_
            refine ih (k + 1) (d + 1) _ _ (by omega) hdp.symm (fun a ha => by rw [up2_n _ _ _ ha]; exact hf a ha) ?_
            rw [up2_s, hnext _ rfl, hj3, ← hlen]
            exact stk_push hs _
          · refine z_eqi (y := -3) (by decide) ?_
            refine z_istore (pc := 23) C dX4_gives_23 (by decide) rfl ?_
            refine z_iload (pc := 25) C dX4_gives_25 rfl ?_
            refine z_bipush (v := -3) (pc := 27) C dX4_gives_27 (by decide) ?_
            refine z_icmp_ltF (pc := 29) C 87 dX4_gives_29 (by decide) (by decide) ?_
            refine z_iload (pc := 32) C dX4_gives_32 rfl ?_
            refine z_aload_n (pc := 34) C dX4_gives_34 rfl ?_
            refine gX4_26 (pc := 35) C dX4_gives_35 ht.2.2.1 ht.2.2.2.2.1 ?_
            refine z_alen (pc := 38) C dX4_gives_38 ht.2.2.2.2.2.1 ht.2.2.2.2.2.2 ?_
            refine z_icmp_geF (pc := 39) C 168 dX4_gives_39 (by decide) (nI_ge hdu (by omega)) ?_
            refine z_aload_n (pc := 42) C dX4_gives_42 rfl ?_
            refine gX4_26 (pc := 43) C dX4_gives_43 ht.2.2.1 ht.2.2.2.2.1 ?_
            refine z_iload (pc := 46) C dX4_gives_46 rfl ?_
            refine z_iload (pc := 48) C dX4_gives_48 rfl ?_
            refine z_if_ltT (pc := 50) C 58 dX4_gives_50 (by decide) (by decide) ?_
            refine z_iload (pc := 58) C dX4_gives_58 rfl ?_
            refine z_iconst (v := -1) (pc := 60) C dX4_gives_60 (by decide) ?_
            refine z_icmp_neT (pc := 61) C 68 dX4_gives_61 (by decide) (by decide) ?_
            refine z_iload (pc := 68) C dX4_gives_68 rfl ?_
            refine z_bipush (v := -3) (pc := 70) C dX4_gives_70 (by decide) ?_
            refine z_icmp_neF (pc := 72) C 79 dX4_gives_72 (by decide) (rfl) ?_
            refine z_iload_n (pc := 75) C dX4_gives_75 rfl ?_
            refine z_goto (pc := 76) C 80 dX4_gives_76 (by decide) ?_
            refine z_iast (pc := 80) C dX4_gives_80 ht.2.2.2.2.2.1 ht.2.2.2.2.2.2 (by omega) (by omega) ?_
            refine z_iincN (pc := 81) C 1 dX4_gives_81 rfl (by decide) rfl ?_
            refine z_goto (pc := 84) C 168 dX4_gives_84 (by decide) ?_
            refine z_iincN (pc := 168) C 1 dX4_gives_168 rfl (by decide) rfl ?_
            refine z_goto (pc := 171) C 6 dX4_gives_171 (by decide) ?_
            refine ih (k + 1) (d + 1) _ _ (by omega) hdp.symm (fun a ha => by rw [up2_n _ _ _ ha]; exact hf a ha) ?_
            rw [up2_s, hnext _ rfl, hj3, ← hlen]
            exact stk_push hs _
      · rw [e] at hnext ⊢
        rw [cm_not]
        obtain ⟨x, rest, rfl⟩ : ∃ x rest, st = x :: rest := by cases st with | nil => simp at hlen; omega | cons x rest => exact ⟨x, rest, rfl⟩
        rw [List.length_cons] at hlen
        have hx : im' (y + 2) (d - 1) = x ∧ d - 1 = rest.length := by rw [show d - 1 = rest.length by omega]; exact ⟨stk_top hs, rfl⟩
        have hdp : dpN g (k + 1) = d := by rw [dpN, e, if_neg (by decide), if_pos rfl, ← hd]
        have hj3 : evC (fa3 n0 n1 n2) (-10) (x :: rest) = (if x = 0 then nI 1 else nI 0) :: rest := by unfold evC; rw [if_neg (by decide), if_pos rfl]
        refine z_istore (pc := 23) C dX4_gives_23 (by decide) rfl ?_
        refine z_iload (pc := 25) C dX4_gives_25 rfl ?_
        refine z_bipush (v := -3) (pc := 27) C dX4_gives_27 (by decide) ?_
        refine z_icmp_ltT (pc := 29) C 87 dX4_gives_29 (by decide) (by decide) ?_
        refine z_iload (pc := 87) C dX4_gives_87 rfl ?_
        refine z_bipush (v := -4) (pc := 89) C dX4_gives_89 (by decide) ?_
        refine z_icmp_neF (pc := 91) C 129 dX4_gives_91 (by decide) (rfl) ?_
        refine z_iload (pc := 94) C dX4_gives_94 rfl ?_
        refine z_iconstN (pc := 96) C 1 dX4_gives_96 ?_
        refine z_icmp_ltF (pc := 97) C 168 dX4_gives_97 (by decide) (nI_nlt (by omega) (by omega)) ?_
        refine z_aload_n (pc := 100) C dX4_gives_100 rfl ?_
        refine gX4_26 (pc := 101) C dX4_gives_101 ht.2.2.1 ht.2.2.2.2.1 ?_
        refine z_iload (pc := 104) C dX4_gives_104 rfl ?_
        refine z_iconstN (pc := 106) C 1 dX4_gives_106 ?_
        refine z_isubN (pc := 107) C dX4_gives_107 (by omega) ?_
        refine z_aload_n (pc := 108) C dX4_gives_108 rfl ?_
        refine gX4_26 (pc := 109) C dX4_gives_109 ht.2.2.1 ht.2.2.2.2.1 ?_
        refine z_iload (pc := 112) C dX4_gives_112 rfl ?_
        refine z_iconstN (pc := 114) C 1 dX4_gives_114 ?_
        refine z_isubN (pc := 115) C dX4_gives_115 (by omega) ?_
        refine z_iald (pc := 116) C dX4_gives_116 ht.2.2.2.2.2.1 ht.2.2.2.2.2.2 (by omega) (by omega) ?_
        refine z_eqi (y := x) (hx.1) ?_
        refine z_if_ne (pc := 117) C 124 dX4_gives_117 (by decide) (fun c_117 => ?_) (fun c_117 => ?_)
        · 
          refine z_iconstN (pc := 124) C 0 dX4_gives_124 ?_
          refine z_iast (pc := 125) C dX4_gives_125 ht.2.2.2.2.2.1 ht.2.2.2.2.2.2 (by omega) (by omega) ?_
          refine z_goto (pc := 126) C 168 dX4_gives_126 (by decide) ?_
          refine z_iincN (pc := 168) C 1 dX4_gives_168 rfl (by decide) rfl ?_
          refine z_goto (pc := 171) C 6 dX4_gives_171 (by decide) ?_
          refine ih (k + 1) (d) _ _ (by omega) hdp.symm (fun a ha => by rw [up2_n _ _ _ ha]; exact hf a ha) ?_
          rw [up2_s, hnext _ rfl, hj3, hx.2, if_neg c_117]
          exact stk_set hs _
        · 
          refine z_iconstN (pc := 120) C 1 dX4_gives_120 ?_
          refine z_goto (pc := 121) C 125 dX4_gives_121 (by decide) ?_
          refine z_iast (pc := 125) C dX4_gives_125 ht.2.2.2.2.2.1 ht.2.2.2.2.2.2 (by omega) (by omega) ?_
          refine z_goto (pc := 126) C 168 dX4_gives_126 (by decide) ?_
          refine z_iincN (pc := 168) C 1 dX4_gives_168 rfl (by decide) rfl ?_
          refine z_goto (pc := 171) C 6 dX4_gives_171 (by decide) ?_
          refine ih (k + 1) (d) _ _ (by omega) hdp.symm (fun a ha => by rw [up2_n _ _ _ ha]; exact hf a ha) ?_
          rw [up2_s, hnext _ rfl, hj3, hx.2, if_pos c_117]
          exact stk_set hs _
      · obtain ⟨n1', n2'⟩ := neg_nI j h3 h4
        rw [e] at hnext ⊢
        rw [cm_op h3 h4]
        obtain ⟨z, x, rest, rfl⟩ : ∃ z x rest, st = z :: x :: rest := by
          cases st with
          | nil => simp at hlen; omega
          | cons z r2 =>
            cases r2 with
            | nil => simp at hlen; omega
            | cons x rest => exact ⟨z, x, rest, rfl⟩
        simp only [List.length_cons] at hlen
        have hx := stk_two hs
        have e1 : d - 1 = rest.length + 1 := by omega
        have e2 : d - 1 - 1 = rest.length := by omega
        have hdp : dpN g (k + 1) = d - 1 := by rw [dpN, e, if_neg n1', if_neg n2', ← hd]
        have hj3 : evC (fa3 n0 n1 n2) (0 - nI j) (z :: x :: rest) = s_two (0 - nI j) x z :: rest := by unfold evC; rw [if_neg n1', if_neg n2']
        refine z_istore (pc := 23) C dX4_gives_23 (by decide) rfl ?_
        refine z_iload (pc := 25) C dX4_gives_25 rfl ?_
        refine z_bipush (v := -3) (pc := 27) C dX4_gives_27 (by decide) ?_
        refine z_icmp_ltT (pc := 29) C 87 dX4_gives_29 (by decide) ((op_lt h3 h4).1) ?_
        refine z_iload (pc := 87) C dX4_gives_87 rfl ?_
        refine z_bipush (v := -4) (pc := 89) C dX4_gives_89 (by decide) ?_
        refine z_icmp_neT (pc := 91) C 129 dX4_gives_91 (by decide) ((op_lt h3 h4).2) ?_
        refine z_iload (pc := 129) C dX4_gives_129 rfl ?_
        refine z_iconstN (pc := 131) C 2 dX4_gives_131 ?_
        refine z_icmp_ltF (pc := 132) C 168 dX4_gives_132 (by decide) (nI_nlt (by omega) (by omega)) ?_
        refine z_iinc (pc := 135) C dX4_gives_135 rfl (pr_dec (by omega)) (by decide) rfl ?_
        refine z_aload_n (pc := 138) C dX4_gives_138 rfl ?_
        refine gX4_26 (pc := 139) C dX4_gives_139 ht.2.2.1 ht.2.2.2.2.1 ?_
        refine z_iload (pc := 142) C dX4_gives_142 rfl ?_
        refine z_iconstN (pc := 144) C 1 dX4_gives_144 ?_
        refine z_isubN (pc := 145) C dX4_gives_145 (by omega) ?_
        refine z_iload (pc := 146) C dX4_gives_146 rfl ?_
        refine z_aload_n (pc := 148) C dX4_gives_148 rfl ?_
        refine gX4_26 (pc := 149) C dX4_gives_149 ht.2.2.1 ht.2.2.2.2.1 ?_
        refine z_iload (pc := 152) C dX4_gives_152 rfl ?_
        refine z_iconstN (pc := 154) C 1 dX4_gives_154 ?_
        refine z_isubN (pc := 155) C dX4_gives_155 (by omega) ?_
        refine z_iald (pc := 156) C dX4_gives_156 ht.2.2.2.2.2.1 ht.2.2.2.2.2.2 (by omega) (by omega) ?_
        refine z_aload_n (pc := 157) C dX4_gives_157 rfl ?_
        refine gX4_26 (pc := 158) C dX4_gives_158 ht.2.2.1 ht.2.2.2.2.1 ?_
        refine z_iload (pc := 161) C dX4_gives_161 rfl ?_
        refine z_iald (pc := 163) C dX4_gives_163 ht.2.2.2.2.2.1 ht.2.2.2.2.2.2 (by omega) (by omega) ?_
        refine kX4_29 (pc := 164) C dX4_gives_164 (c4_workedOut κ.2.1 E S im' (-4 - nI j) (im' (y + 2) (d - 1 - 1)) (im' (y + 2) (d - 1))) (by decide) (Nat.le_of_ble_eq_true rfl) (Nat.le_refl _) (Nat.le_refl _) (fun v_164 S_164 im_164 h_164 => ?_)
        obtain ⟨rfl, rfl, rfl⟩ := h_164
        refine z_iast (pc := 167) C dX4_gives_167 ht.2.2.2.2.2.1 ht.2.2.2.2.2.2 (by omega) (by omega) ?_
        refine z_iincN (pc := 168) C 1 dX4_gives_168 rfl (by decide) rfl ?_
        refine z_goto (pc := 171) C 6 dX4_gives_171 (by decide) ?_
        refine ih (k + 1) (d - 1) _ _ (by omega) hdp.symm (fun a ha => by rw [up2_n _ _ _ ha]; exact hf a ha) ?_
        rw [up2_s, hnext _ rfl, hj3, e2, e1, hx.1, hx.2, tw_eq h3 h4]
        exact stk_bin hs _
  refine z_iconstN (pc := 0) C 0 dX4_gives_0 ?_
  refine z_istore (pc := 1) C dX4_gives_1 (by decide) rfl ?_
  refine z_iconstN (pc := 3) C 0 dX4_gives_3 ?_
  refine z_istore (pc := 4) C dX4_gives_4 (by decide) rfl ?_
  exact loop m 0 0 im _ (by omega) rfl (fun _ _ => rfl) (fun i hi => absurd hi (Nat.not_lt_zero i))
