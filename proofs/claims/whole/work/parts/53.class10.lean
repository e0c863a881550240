/-! the class: hasLineOf -/
set_option maxRecDepth 100000 in
set_option maxHeartbeats 4000000 in
theorem c3_hasLineOf (l : Launch) (E : Ex) (S : Sx) (im : Mem) (q : Nat) (hs : SL S q) (p : Nat) (hs2 : SL S p) (n : Nat) (hn : n ≤ 10) (h1 : im q 1 = nI n) (h2 : im p 1 = nI n) : Mt l E yX3_hasLineOf cX3_hasLineOf 3 (some .boolean) 1 0 0 [.ref q, .ref p] S im (pI (pB S im (∀ j, j < n → im (q + 2) j = im (p + 2) j))) := by
  refine Mt.of (by decide +kernel) rfl rfl (Nat.le_of_ble_eq_true rfl) ?_
  intro κ hκ C ρ
  subst hκ
  show V E κ 3 0 0 0 [some (.ref q), some (.ref p), none] [] S im
  have loop : ∀ (r i : Nat), i + r = n → (∀ j, j < i → im (q + 2) j = im (p + 2) j) → V E κ 3 0 0 15 [some (.ref q), some (.ref p), some (.int (nI i))] [] S im := by
    intro r
    induction r with
    | zero =>
      intro i hi hL
      refine z_iload_n (pc := 15) C dX3_hasLineOf_15 rfl ?_
      refine z_aload_n (pc := 16) C dX3_hasLineOf_16 rfl ?_
      refine gX3_39 (pc := 17) C dX3_hasLineOf_17 (sl_K hs) ?_
      refine z_eqi (y := nI n) (h1) ?_
      refine z_icmp_geT (pc := 20) C 46 dX3_hasLineOf_20 (by decide) (nI_le (by omega) (by omega)) ?_
      refine z_iconstN (pc := 46) C 1 dX3_hasLineOf_46 ?_
      exact z_zret (pc := 47) C ρ dX3_hasLineOf_47 (by decide) (⟨_, rfl, Or.inl ⟨fun j hj => hL j (by omega), rfl, rfl, rfl⟩⟩)
    | succ r ih =>
      intro i hi hL
      refine z_iload_n (pc := 15) C dX3_hasLineOf_15 rfl ?_
      refine z_aload_n (pc := 16) C dX3_hasLineOf_16 rfl ?_
      refine gX3_39 (pc := 17) C dX3_hasLineOf_17 (sl_K hs) ?_
      refine z_eqi (y := nI n) (h1) ?_
      refine z_icmp_geF (pc := 20) C 46 dX3_hasLineOf_20 (by decide) (nI_ge (by omega) (by omega)) ?_
      refine z_aload_n (pc := 23) C dX3_hasLineOf_23 rfl ?_
      refine gX3_17 (pc := 24) C dX3_hasLineOf_24 (sl_K hs) (sl_r2 hs) ?_
      refine z_iload_n (pc := 27) C dX3_hasLineOf_27 rfl ?_
      refine z_iald (pc := 28) C dX3_hasLineOf_28 (sl_a2 hs) (sl_n2 hs) (by omega) (by decide) ?_
      refine z_aload_n (pc := 29) C dX3_hasLineOf_29 rfl ?_
      refine gX3_17 (pc := 30) C dX3_hasLineOf_30 (sl_K hs2) (sl_r2 hs2) ?_
      refine z_iload_n (pc := 33) C dX3_hasLineOf_33 rfl ?_
      refine z_iald (pc := 34) C dX3_hasLineOf_34 (sl_a2 hs2) (sl_n2 hs2) (by omega) (by decide) ?_
      refine z_icmp_eq (pc := 35) C 40 dX3_hasLineOf_35 (by decide) (fun c_35 => ?_) (fun c_35 => ?_)
      · 
        refine z_iincN (pc := 40) C 1 dX3_hasLineOf_40 rfl (by decide) rfl ?_
        refine z_goto (pc := 43) C 15 dX3_hasLineOf_43 (by decide) ?_
        refine ih (i + 1) (by omega) (fun j hj => ?_)
        by_cases e : j = i
        · rw [e]; exact c_35
        · exact hL j (by omega)
      · 
        refine z_iconstN (pc := 38) C 0 dX3_hasLineOf_38 ?_
        exact z_zret (pc := 39) C ρ dX3_hasLineOf_39 (by decide) (⟨_, rfl, Or.inr ⟨fun h => c_35 (h i (by omega)), rfl, rfl, rfl⟩⟩)
  refine z_aload_n (pc := 0) C dX3_hasLineOf_0 rfl ?_
  refine gX3_39 (pc := 1) C dX3_hasLineOf_1 (sl_K hs) ?_
  refine z_aload_n (pc := 4) C dX3_hasLineOf_4 rfl ?_
  refine gX3_39 (pc := 5) C dX3_hasLineOf_5 (sl_K hs2) ?_
  refine z_icmp_eqT (pc := 8) C 13 dX3_hasLineOf_8 (by decide) (h1.trans h2.symm) ?_
  refine z_iconstN (pc := 13) C 0 dX3_hasLineOf_13 ?_
  refine z_istore_n (pc := 14) C dX3_hasLineOf_14 (by decide) rfl ?_
  exact loop n 0 (by omega) (fun j h => absurd h (Nat.not_lt_zero _))
