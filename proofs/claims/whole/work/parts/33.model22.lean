/-! the reference: signs that wait -/
def rk (x : Int32) : Nat := if x = -1 then 1 else if x = -2 then 2 else if -5 ≤ x then 3 else if -7 ≤ x then 4 else if -9 ≤ x then 5 else 6
theorem i_ge2 {x y : Int32} (h : ¬ x < y) : y ≤ x := i_le h
set_option maxRecDepth 100000 in
set_option maxHeartbeats 4000000 in
theorem m7_rank (l : Launch) (E : Ex) (S : Sx) (im : Mem) (x : Int32) : Mt l E yX7_rank cX7_rank 1 (some .int) 1 0 0 [.int x] S im (pI (pE S im (nI (rk x)))) := by
  refine Mt.of (by decide +kernel) rfl rfl (Nat.le_of_ble_eq_true rfl) ?_
  intro κ hκ C ρ
  subst hκ
  show V E κ 1 0 0 0 [some (.int x)] [] S im
  refine z_iload_n (pc := 0) C dX7_rank_0 rfl ?_
  refine z_iconst (v := -1) (pc := 1) C dX7_rank_1 (by decide) ?_
  refine z_icmp_ne (pc := 2) C 9 dX7_rank_2 (by decide) (fun c_2 => ?_) (fun c_2 => ?_)
  · 
    refine z_iload_n (pc := 9) C dX7_rank_9 rfl ?_
    refine z_bipush (v := -2) (pc := 10) C dX7_rank_10 (by decide) ?_
    refine z_icmp_ne (pc := 12) C 19 dX7_rank_12 (by decide) (fun c_12 => ?_) (fun c_12 => ?_)
    · 
      refine z_iload_n (pc := 19) C dX7_rank_19 rfl ?_
      refine z_bipush (v := -5) (pc := 20) C dX7_rank_20 (by decide) ?_
      refine z_icmp_lt (pc := 22) C 29 dX7_rank_22 (by decide) (fun c_22 => ?_) (fun c_22 => ?_)
      · 
        refine z_iload_n (pc := 29) C dX7_rank_29 rfl ?_
        refine z_bipush (v := -7) (pc := 30) C dX7_rank_30 (by decide) ?_
        refine z_icmp_lt (pc := 32) C 39 dX7_rank_32 (by decide) (fun c_32 => ?_) (fun c_32 => ?_)
        · 
          refine z_iload_n (pc := 39) C dX7_rank_39 rfl ?_
          refine z_bipush (v := -9) (pc := 40) C dX7_rank_40 (by decide) ?_
          refine z_icmp_lt (pc := 42) C 49 dX7_rank_42 (by decide) (fun c_42 => ?_) (fun c_42 => ?_)
          · 
            refine z_bipushN (pc := 49) C 6 (by decide) dX7_rank_49 ?_
            exact z_iret (pc := 51) C ρ dX7_rank_51 (⟨_, rfl, by simp only [rk, if_neg c_2, if_neg c_12, if_neg (i_nlt c_22), if_neg (i_nlt c_32), if_neg (i_nlt c_42)], rfl, rfl⟩)
          · 
            refine z_iconstN (pc := 45) C 5 dX7_rank_45 ?_
            refine z_goto (pc := 46) C 51 dX7_rank_46 (by decide) ?_
            exact z_iret (pc := 51) C ρ dX7_rank_51 (⟨_, rfl, by simp only [rk, if_neg c_2, if_neg c_12, if_neg (i_nlt c_22), if_neg (i_nlt c_32), if_pos (i_le c_42)], rfl, rfl⟩)
        · 
          refine z_iconstN (pc := 35) C 4 dX7_rank_35 ?_
          refine z_goto (pc := 36) C 51 dX7_rank_36 (by decide) ?_
          exact z_iret (pc := 51) C ρ dX7_rank_51 (⟨_, rfl, by simp only [rk, if_neg c_2, if_neg c_12, if_neg (i_nlt c_22), if_pos (i_le c_32)], rfl, rfl⟩)
      · 
        refine z_iconstN (pc := 25) C 3 dX7_rank_25 ?_
        refine z_goto (pc := 26) C 51 dX7_rank_26 (by decide) ?_
        exact z_iret (pc := 51) C ρ dX7_rank_51 (⟨_, rfl, by simp only [rk, if_neg c_2, if_neg c_12, if_pos (i_le c_22)], rfl, rfl⟩)
    · 
      refine z_iconstN (pc := 15) C 2 dX7_rank_15 ?_
      refine z_goto (pc := 16) C 51 dX7_rank_16 (by decide) ?_
      exact z_iret (pc := 51) C ρ dX7_rank_51 (⟨_, rfl, by simp only [rk, if_neg c_2, if_pos c_12], rfl, rfl⟩)
  · 
    refine z_iconstN (pc := 5) C 1 dX7_rank_5 ?_
    refine z_goto (pc := 6) C 51 dX7_rank_6 (by decide) ?_
    exact z_iret (pc := 51) C ρ dX7_rank_51 (⟨_, rfl, by simp only [rk, if_pos c_2], rfl, rfl⟩)
def stl (m : Nat) : List Int32 → List Int32 × List Int32
  | [] => ([], [])
  | x :: xs => if x = -11 then ([], x :: xs) else if rk x < m then ([], x :: xs) else (x :: (stl m xs).1, (stl m xs).2)
def PSt (M : Nat) (im : Mem) (cs W : List Int32) : Prop := im M 21 = nI cs.length ∧ im M 24 = nI W.length ∧ (∀ i, i < cs.length → im (M + 12) i = cs.getD i 0) ∧ stk (im (M + 13)) W ∧ cs.length + W.length ≤ 96
theorem stk_tl {a : Nat → Int32} {x : Int32} {xs : List Int32} (h : stk a (x :: xs)) : stk a xs := by
  intro i hi
  have := h i (by simp; omega)
  rw [this]
  have e : (x :: xs).length - 1 - i = (xs.length - 1 - i) + 1 := by simp; omega
  rw [e, List.getD_cons_succ]
theorem row_snoc {a : Nat → Int32} {x : Int32} {cs : List Int32} (h : ∀ i, i < cs.length → a i = cs.getD i 0) : ∀ i, i < (cs ++ [x]).length → upd a cs.length x i = (cs ++ [x]).getD i 0 := by
  intro i hi
  simp at hi
  by_cases e : i = cs.length
  · subst e
    rw [upd_s]
    simp [List.getD]
  · rw [upd_n _ _ e, h i (by omega)]
    simp [List.getD, List.getElem?_append, show i < cs.length by omega]
theorem stl_len (m : Nat) : ∀ W, (stl m W).1.length + (stl m W).2.length = W.length := by
  intro W
  induction W with
  | nil => rfl
  | cons x xs ih =>
    rw [stl]
    split
    · simp
    · split
      · simp
      · simp; omega
theorem rk_lt (x : Int32) : rk x < 2 ^ 31 := by unfold rk; repeat (first | (split; decide) | split | decide)
theorem rk_le6 (x : Int32) : rk x ≤ 6 := by unfold rk; repeat (first | (split; decide) | split | decide)
set_option maxRecDepth 100000 in
set_option maxHeartbeats 4000000 in
theorem m7_settle (l : Launch) (E : Ex) (S : Sx) (im : Mem) (M : Nat) (hM : ML S M) (m : Nat) (hm : m ≤ 6) (cs0 W0 : List Int32) (hP0 : PSt M im cs0 W0) : Mt l E yX7_settle cX7_settle 2 none 2 0 0 [.ref M, .int (nI m)] S im (pV (fun S' im' => S = S' ∧ PSt M im' (cs0 ++ (stl m W0).1) (stl m W0).2 ∧ (∀ k, k ≠ 21 → k ≠ 24 → im' M k = im M k) ∧ ∀ c, c ≠ M → c ≠ M + 12 → im' c = im c)) := by
  refine Mt.of (by decide +kernel) rfl rfl (Nat.le_of_ble_eq_true rfl) ?_
  intro κ hκ C ρ
  subst hκ
  show V E κ 2 0 0 0 [some (.ref M), some (.int (nI m))] [] S im
  have loop : ∀ (W : List Int32) (cs : List Int32) (im' : Mem), cs.length + W.length ≤ 96 → PSt M im' cs W → (∀ k, k ≠ 21 → k ≠ 24 → im' M k = im M k) → (∀ c, c ≠ M → c ≠ M + 12 → im' c = im c) → (∀ im2 : Mem, (PSt M im2 (cs ++ (stl m W).1) (stl m W).2 ∧ (∀ k, k ≠ 21 → k ≠ 24 → im2 M k = im M k) ∧ ∀ c, c ≠ M → c ≠ M + 12 → im2 c = im c) → (PSt M im2 (cs0 ++ (stl m W0).1) (stl m W0).2 ∧ (∀ k, k ≠ 21 → k ≠ 24 → im2 M k = im M k) ∧ ∀ c, c ≠ M → c ≠ M + 12 → im2 c = im c)) → V E κ 2 0 0 0 [some (.ref M), some (.int (nI m))] [] S im' := by
    intro W
    induction W with
    | nil =>
      intro cs im' hl hP hk hc hG
      refine z_aload_n (pc := 0) C dX7_settle_0 rfl ?_
      refine gX7_233 (pc := 1) C dX7_settle_1 (ml_K hM) ?_
      refine z_eqi (y := nI 0) (by rw [hP.2.1]; rfl) ?_
      refine z_if_leT (pc := 4) C 82 dX7_settle_4 (by decide) (by decide) ?_
      exact z_vret (pc := 82) C ρ dX7_settle_82 (⟨rfl, rfl, hG im' ⟨by simp only [stl, List.append_nil]; exact hP, hk, hc⟩⟩)
    | cons x xs ih =>
      intro cs im' hl hP hk hc hG
      have hl2 : cs.length + (xs.length + 1) ≤ 96 := hl
      refine z_aload_n (pc := 0) C dX7_settle_0 rfl ?_
      refine gX7_233 (pc := 1) C dX7_settle_1 (ml_K hM) ?_
      refine z_eqi (y := nI (xs.length + 1)) (by rw [hP.2.1]; rfl) ?_
      refine z_if_leF (pc := 4) C 82 dX7_settle_4 (by decide) (nI_nle (by omega) (by omega)) ?_
      refine z_aload_n (pc := 7) C dX7_settle_7 rfl ?_
      refine gX7_52 (pc := 8) C dX7_settle_8 (ml_K hM) (ml_r23 hM) ?_
      refine z_aload_n (pc := 11) C dX7_settle_11 rfl ?_
      refine gX7_233 (pc := 12) C dX7_settle_12 (ml_K hM) ?_
      refine z_eqi (y := nI (xs.length + 1)) (by rw [hP.2.1]; rfl) ?_
      refine z_iconstN (pc := 15) C 1 dX7_settle_15 ?_
      refine z_isubN (pc := 16) C dX7_settle_16 (by omega) ?_
      refine z_iald (pc := 17) C dX7_settle_17 (ml_a13 hM) (ml_n13 hM) (by omega) (by decide) ?_
      refine z_eqi (y := x) (stk_top hP.2.2.2.1) ?_
      refine z_bipush (v := -11) (pc := 18) C dX7_settle_18 (by decide) ?_
      refine z_icmp_eq (pc := 20) C 82 dX7_settle_20 (by decide) (fun c_20 => ?_) (fun c_20 => ?_)
      · 
        exact z_vret (pc := 82) C ρ dX7_settle_82 (⟨rfl, rfl, hG im' ⟨by rw [stl, if_pos c_20, List.append_nil]; exact hP, hk, hc⟩⟩)
      · 
        refine z_aload_n (pc := 23) C dX7_settle_23 rfl ?_
        refine gX7_52 (pc := 24) C dX7_settle_24 (ml_K hM) (ml_r23 hM) ?_
        refine z_aload_n (pc := 27) C dX7_settle_27 rfl ?_
        refine gX7_233 (pc := 28) C dX7_settle_28 (ml_K hM) ?_
        refine z_eqi (y := nI (xs.length + 1)) (by rw [hP.2.1]; rfl) ?_
        refine z_iconstN (pc := 31) C 1 dX7_settle_31 ?_
        refine z_isubN (pc := 32) C dX7_settle_32 (by omega) ?_
        refine z_iald (pc := 33) C dX7_settle_33 (ml_a13 hM) (ml_n13 hM) (by omega) (by decide) ?_
        refine z_eqi (y := x) (stk_top hP.2.2.2.1) ?_
        refine kX7_236 (pc := 34) C dX7_settle_34 (m7_rank κ.2.1 E S im' x) (by decide) (Nat.le_of_ble_eq_true rfl) (Nat.le_refl _) (Nat.le_refl _) (fun v_34 S_34 im_34 h_34 => ?_)
        obtain ⟨rfl, rfl, rfl⟩ := h_34
        refine z_iload_n (pc := 37) C dX7_settle_37 rfl ?_
        refine z_icmp_ltN (pc := 38) C 82 dX7_settle_38 (by decide) (rk_lt x) (by omega) (fun c_38 => ?_) (fun c_38 => ?_)
        · 
          exact z_vret (pc := 82) C ρ dX7_settle_82 (⟨rfl, rfl, hG im' ⟨by rw [stl, if_neg c_20, if_pos c_38, List.append_nil]; exact hP, hk, hc⟩⟩)
        · 
          refine z_aload_n (pc := 41) C dX7_settle_41 rfl ?_
          refine z_dup (pc := 42) C dX7_settle_42 rfl ?_
          refine gX7_233 (pc := 43) C dX7_settle_43 (ml_K hM) ?_
          refine z_eqi (y := nI (xs.length + 1)) (by rw [hP.2.1]; rfl) ?_
          refine z_iconstN (pc := 46) C 1 dX7_settle_46 ?_
          refine z_isubN (pc := 47) C dX7_settle_47 (by omega) ?_
          refine pX7_233 (pc := 48) C dX7_settle_48 (ml_K hM) ?_
          refine z_aload_n (pc := 51) C dX7_settle_51 rfl ?_
          refine gX7_49 (pc := 52) C dX7_settle_52 (ml_K hM) (ml_r20 hM) ?_
          refine z_aload_n (pc := 55) C dX7_settle_55 rfl ?_
          refine gX7_239 (pc := 56) C dX7_settle_56 (ml_K hM) ?_
          refine z_eqi (y := nI cs.length) (by rw [up2_at, if_neg (by decide)]; exact hP.1) ?_
          refine z_aload_n (pc := 59) C dX7_settle_59 rfl ?_
          refine gX7_52 (pc := 60) C dX7_settle_60 (ml_K hM) (ml_r23 hM) ?_
          refine z_aload_n (pc := 63) C dX7_settle_63 rfl ?_
          refine gX7_233 (pc := 64) C dX7_settle_64 (ml_K hM) ?_
          refine z_eqi (y := nI xs.length) (by rw [up2_at, if_pos rfl]; rfl) ?_
          refine z_iald (pc := 67) C dX7_settle_67 (ml_a13 hM) (ml_n13 hM) (by omega) (by decide) ?_
          refine z_eqi (y := x) (by rw [up2_n _ _ _ (by omega)]; exact stk_top hP.2.2.2.1) ?_
          refine z_iast (pc := 68) C dX7_settle_68 (ml_a12 hM) (ml_n12 hM) (by omega) (by decide) ?_
          refine z_aload_n (pc := 69) C dX7_settle_69 rfl ?_
          refine z_dup (pc := 70) C dX7_settle_70 rfl ?_
          refine gX7_239 (pc := 71) C dX7_settle_71 (ml_K hM) ?_
          refine z_eqi (y := nI cs.length) (by rw [up2_n _ _ _ (by omega), up2_at, if_neg (by decide)]; exact hP.1) ?_
          refine z_iconstN (pc := 74) C 1 dX7_settle_74 ?_
          refine z_iaddN (pc := 75) C dX7_settle_75 ?_
          refine pX7_239 (pc := 76) C dX7_settle_76 (ml_K hM) ?_
          refine z_goto (pc := 79) C 0 dX7_settle_79 (by decide) ?_
          refine ih (cs ++ [x]) _ (by simp; omega) ⟨by rw [up2_at, if_pos rfl, List.length_append]; rfl, by rw [up2_at, if_neg (by decide), up2_n _ _ _ (by omega), up2_at, if_pos rfl]; rfl, ?_, ?_, by simp; omega⟩ (fun k q1 q2 => by rw [up2_at, if_neg q1, up2_n _ _ _ (by omega), up2_at, if_neg q2]; exact hk k q1 q2) (fun c q1 q2 => by rw [up2_n _ _ _ q1, up2_n _ _ _ q2, up2_n _ _ _ q1]; exact hc c q1 q2) (fun im2 h => hG im2 ?_)
          · rw [up2_n _ _ _ (by omega), up2_s, up2_n _ _ _ (by omega)]
            exact row_snoc hP.2.2.1
          · rw [up2_n _ _ _ (by omega), up2_n _ _ _ (by omega), up2_n _ _ _ (by omega)]
            exact stk_tl hP.2.2.2.1
          · rw [stl, if_neg c_20, if_neg c_38]
            simpa using h
  exact loop W0 cs0 im hP0.2.2.2.2 hP0 (fun _ _ _ => rfl) (fun _ _ _ => rfl) (fun _ h => h)
def s_name (k x : Int32) : Int32 := if k = nI 0 then (if x = nI 111 then nI 0 else if x = nI 119 then nI 1 else if x = nI 115 then nI 2 else -1) else if k = nI 1 then (if x = nI 110 then nI 0 else if x = nI 119 then nI 1 else -1) else (if x = nI 112 then nI 0 else if x = nI 100 then nI 1 else -1)
def s_sign (x : Int32) : Int32 := if x = nI 38 then -2 else if x = nI 42 then -8 else if x = nI 43 then -6 else if x = nI 45 then -7 else if x = nI 47 then -9 else if x = nI 60 then -3 else if x = nI 61 then -4 else if x = nI 62 then -5 else if x = nI 124 then -1 else nI 0
set_option maxRecDepth 100000 in
set_option maxHeartbeats 4000000 in
theorem m7_nameOf (l : Launch) (E : Ex) (S : Sx) (im : Mem) (M : Nat) (hM : ML S M) (x : Int32) : Mt l E yX7_nameOf cX7_nameOf 2 (some .int) 1 0 0 [.ref M, .int x] S im (pI (pE S im (s_name (im M 17) x))) := by
  refine Mt.of (by decide +kernel) rfl rfl (Nat.le_of_ble_eq_true rfl) ?_
  intro κ hκ C ρ
  subst hκ
  show V E κ 2 0 0 0 [some (.ref M), some (.int x)] [] S im
  refine z_aload_n (pc := 0) C dX7_nameOf_0 rfl ?_
  refine gX7_227 (pc := 1) C dX7_nameOf_1 (ml_K hM) ?_
  by_cases hs_0 : im M 17 = nI 0
  · 
    refine z_eqi (y := nI 0) hs_0 ?_
    refine z_lookup (off := 28) (pc := 4) C 32 dX7_nameOf_4 (by decide +kernel) (by decide +kernel) (by decide) ?_
    refine z_iload_n (pc := 32) C dX7_nameOf_32 rfl ?_
    refine z_bipushN (pc := 33) C 111 (by decide) dX7_nameOf_33 ?_
    refine z_icmp_ne (pc := 35) C 42 dX7_nameOf_35 (by decide) (fun c_35 => ?_) (fun c_35 => ?_)
    · 
      refine z_iload_n (pc := 42) C dX7_nameOf_42 rfl ?_
      refine z_bipushN (pc := 43) C 119 (by decide) dX7_nameOf_43 ?_
      refine z_icmp_ne (pc := 45) C 52 dX7_nameOf_45 (by decide) (fun c_45 => ?_) (fun c_45 => ?_)
      · 
        refine z_iload_n (pc := 52) C dX7_nameOf_52 rfl ?_
        refine z_bipushN (pc := 53) C 115 (by decide) dX7_nameOf_53 ?_
        refine z_icmp_ne (pc := 55) C 62 dX7_nameOf_55 (by decide) (fun c_55 => ?_) (fun c_55 => ?_)
        · 
          refine z_iconst (v := -1) (pc := 62) C dX7_nameOf_62 (by decide) ?_
          exact z_iret (pc := 63) C ρ dX7_nameOf_63 (⟨_, rfl, by simp only [s_name, if_pos hs_0, if_neg c_35, if_neg c_45, if_neg c_55], rfl, rfl⟩)
        · 
          refine z_iconstN (pc := 58) C 2 dX7_nameOf_58 ?_
          refine z_goto (pc := 59) C 63 dX7_nameOf_59 (by decide) ?_
          exact z_iret (pc := 63) C ρ dX7_nameOf_63 (⟨_, rfl, by simp only [s_name, if_pos hs_0, if_neg c_35, if_neg c_45, if_pos c_55], rfl, rfl⟩)
      · 
        refine z_iconstN (pc := 48) C 1 dX7_nameOf_48 ?_
        refine z_goto (pc := 49) C 63 dX7_nameOf_49 (by decide) ?_
        exact z_iret (pc := 63) C ρ dX7_nameOf_63 (⟨_, rfl, by simp only [s_name, if_pos hs_0, if_neg c_35, if_pos c_45], rfl, rfl⟩)
    · 
      refine z_iconstN (pc := 38) C 0 dX7_nameOf_38 ?_
      refine z_goto (pc := 39) C 63 dX7_nameOf_39 (by decide) ?_
      exact z_iret (pc := 63) C ρ dX7_nameOf_63 (⟨_, rfl, by simp only [s_name, if_pos hs_0, if_pos c_35], rfl, rfl⟩)
  by_cases hs_1 : im M 17 = nI 1
  · 
    refine z_eqi (y := nI 1) hs_1 ?_
    refine z_lookup (off := 60) (pc := 4) C 64 dX7_nameOf_4 (by decide +kernel) (by decide +kernel) (by decide) ?_
    refine z_iload_n (pc := 64) C dX7_nameOf_64 rfl ?_
    refine z_bipushN (pc := 65) C 110 (by decide) dX7_nameOf_65 ?_
    refine z_icmp_ne (pc := 67) C 74 dX7_nameOf_67 (by decide) (fun c_67 => ?_) (fun c_67 => ?_)
    · 
      refine z_iload_n (pc := 74) C dX7_nameOf_74 rfl ?_
      refine z_bipushN (pc := 75) C 119 (by decide) dX7_nameOf_75 ?_
      refine z_icmp_ne (pc := 77) C 84 dX7_nameOf_77 (by decide) (fun c_77 => ?_) (fun c_77 => ?_)
      · 
        refine z_iconst (v := -1) (pc := 84) C dX7_nameOf_84 (by decide) ?_
        exact z_iret (pc := 85) C ρ dX7_nameOf_85 (⟨_, rfl, by simp only [s_name, if_neg hs_0, if_pos hs_1, if_neg c_67, if_neg c_77], rfl, rfl⟩)
      · 
        refine z_iconstN (pc := 80) C 1 dX7_nameOf_80 ?_
        refine z_goto (pc := 81) C 85 dX7_nameOf_81 (by decide) ?_
        exact z_iret (pc := 85) C ρ dX7_nameOf_85 (⟨_, rfl, by simp only [s_name, if_neg hs_0, if_pos hs_1, if_neg c_67, if_pos c_77], rfl, rfl⟩)
    · 
      refine z_iconstN (pc := 70) C 0 dX7_nameOf_70 ?_
      refine z_goto (pc := 71) C 85 dX7_nameOf_71 (by decide) ?_
      exact z_iret (pc := 85) C ρ dX7_nameOf_85 (⟨_, rfl, by simp only [s_name, if_neg hs_0, if_pos hs_1, if_pos c_67], rfl, rfl⟩)
  refine z_lookup (pc := 4) C 86 dX7_nameOf_4 (by decide +kernel) (off := 82) (by show Op.lookupswitch.offset [(0, 28), (1, 60)] 82 _ = _; rw [lv_osw hs_0 (show (nI 0 : Int32).toInt = 0 by decide), lv_osw hs_1 (show (nI 1 : Int32).toInt = 1 by decide)]; rfl) (by decide) ?_
  refine z_iload_n (pc := 86) C dX7_nameOf_86 rfl ?_
  refine z_bipushN (pc := 87) C 112 (by decide) dX7_nameOf_87 ?_
  refine z_icmp_ne (pc := 89) C 96 dX7_nameOf_89 (by decide) (fun c_89 => ?_) (fun c_89 => ?_)
  · 
    refine z_iload_n (pc := 96) C dX7_nameOf_96 rfl ?_
    refine z_bipushN (pc := 97) C 100 (by decide) dX7_nameOf_97 ?_
    refine z_icmp_ne (pc := 99) C 106 dX7_nameOf_99 (by decide) (fun c_99 => ?_) (fun c_99 => ?_)
    · 
      refine z_iconst (v := -1) (pc := 106) C dX7_nameOf_106 (by decide) ?_
      exact z_iret (pc := 107) C ρ dX7_nameOf_107 (⟨_, rfl, by simp only [s_name, if_neg hs_0, if_neg hs_1, if_neg c_89, if_neg c_99], rfl, rfl⟩)
    · 
      refine z_iconstN (pc := 102) C 1 dX7_nameOf_102 ?_
      refine z_goto (pc := 103) C 107 dX7_nameOf_103 (by decide) ?_
      exact z_iret (pc := 107) C ρ dX7_nameOf_107 (⟨_, rfl, by simp only [s_name, if_neg hs_0, if_neg hs_1, if_neg c_89, if_pos c_99], rfl, rfl⟩)
  · 
    refine z_iconstN (pc := 92) C 0 dX7_nameOf_92 ?_
    refine z_goto (pc := 93) C 107 dX7_nameOf_93 (by decide) ?_
    exact z_iret (pc := 107) C ρ dX7_nameOf_107 (⟨_, rfl, by simp only [s_name, if_neg hs_0, if_neg hs_1, if_pos c_89], rfl, rfl⟩)
set_option maxRecDepth 100000 in
set_option maxHeartbeats 4000000 in
theorem m7_signHere (l : Launch) (E : Ex) (S : Sx) (im : Mem) (M : Nat) (hM : ML S M)  : Mt l E yX7_signHere cX7_signHere 1 (some .int) 1 0 0 [.ref M] S im (pI (pE S im (if im M 14 = nI 3 then s_sign (im M 15) else nI 0))) := by
  refine Mt.of (by decide +kernel) rfl rfl (Nat.le_of_ble_eq_true rfl) ?_
  intro κ hκ C ρ
  subst hκ
  show V E κ 1 0 0 0 [some (.ref M)] [] S im
  refine z_aload_n (pc := 0) C dX7_signHere_0 rfl ?_
  refine gX7_215 (pc := 1) C dX7_signHere_1 (ml_K hM) ?_
  refine z_iconstN (pc := 4) C 3 dX7_signHere_4 ?_
  refine z_icmp_eq (pc := 5) C 10 dX7_signHere_5 (by decide) (fun c_5 => ?_) (fun c_5 => ?_)
  · 
    refine z_aload_n (pc := 10) C dX7_signHere_10 rfl ?_
    refine gX7_221 (pc := 11) C dX7_signHere_11 (ml_K hM) ?_
    by_cases hs_38 : im M 15 = nI 38
    · 
      refine z_eqi (y := nI 38) hs_38 ?_
      refine z_lookup (off := 84) (pc := 14) C 98 dX7_signHere_14 (by decide +kernel) (by decide +kernel) (by decide) ?_
      refine z_bipush (v := -2) (pc := 98) C dX7_signHere_98 (by decide) ?_
      exact z_iret (pc := 100) C ρ dX7_signHere_100 (⟨_, rfl, by simp only [s_sign, if_pos c_5, if_pos hs_38], rfl, rfl⟩)
    by_cases hs_42 : im M 15 = nI 42
    · 
      refine z_eqi (y := nI 42) hs_42 ?_
      refine z_lookup (off := 102) (pc := 14) C 116 dX7_signHere_14 (by decide +kernel) (by decide +kernel) (by decide) ?_
      refine z_bipush (v := -8) (pc := 116) C dX7_signHere_116 (by decide) ?_
      exact z_iret (pc := 118) C ρ dX7_signHere_118 (⟨_, rfl, by simp only [s_sign, if_pos c_5, if_neg hs_38, if_pos hs_42], rfl, rfl⟩)
    by_cases hs_43 : im M 15 = nI 43
    · 
      refine z_eqi (y := nI 43) hs_43 ?_
      refine z_lookup (off := 96) (pc := 14) C 110 dX7_signHere_14 (by decide +kernel) (by decide +kernel) (by decide) ?_
      refine z_bipush (v := -6) (pc := 110) C dX7_signHere_110 (by decide) ?_
      exact z_iret (pc := 112) C ρ dX7_signHere_112 (⟨_, rfl, by simp only [s_sign, if_pos c_5, if_neg hs_38, if_neg hs_42, if_pos hs_43], rfl, rfl⟩)
    by_cases hs_45 : im M 15 = nI 45
    · 
      refine z_eqi (y := nI 45) hs_45 ?_
      refine z_lookup (off := 99) (pc := 14) C 113 dX7_signHere_14 (by decide +kernel) (by decide +kernel) (by decide) ?_
      refine z_bipush (v := -7) (pc := 113) C dX7_signHere_113 (by decide) ?_
      exact z_iret (pc := 115) C ρ dX7_signHere_115 (⟨_, rfl, by simp only [s_sign, if_pos c_5, if_neg hs_38, if_neg hs_42, if_neg hs_43, if_pos hs_45], rfl, rfl⟩)
    by_cases hs_47 : im M 15 = nI 47
    · 
      refine z_eqi (y := nI 47) hs_47 ?_
      refine z_lookup (off := 105) (pc := 14) C 119 dX7_signHere_14 (by decide +kernel) (by decide +kernel) (by decide) ?_
      refine z_bipush (v := -9) (pc := 119) C dX7_signHere_119 (by decide) ?_
      exact z_iret (pc := 121) C ρ dX7_signHere_121 (⟨_, rfl, by simp only [s_sign, if_pos c_5, if_neg hs_38, if_neg hs_42, if_neg hs_43, if_neg hs_45, if_pos hs_47], rfl, rfl⟩)
    by_cases hs_60 : im M 15 = nI 60
    · 
      refine z_eqi (y := nI 60) hs_60 ?_
      refine z_lookup (off := 87) (pc := 14) C 101 dX7_signHere_14 (by decide +kernel) (by decide +kernel) (by decide) ?_
      refine z_bipush (v := -3) (pc := 101) C dX7_signHere_101 (by decide) ?_
      exact z_iret (pc := 103) C ρ dX7_signHere_103 (⟨_, rfl, by simp only [s_sign, if_pos c_5, if_neg hs_38, if_neg hs_42, if_neg hs_43, if_neg hs_45, if_neg hs_47, if_pos hs_60], rfl, rfl⟩)
    by_cases hs_61 : im M 15 = nI 61
    · 
      refine z_eqi (y := nI 61) hs_61 ?_
      refine z_lookup (off := 90) (pc := 14) C 104 dX7_signHere_14 (by decide +kernel) (by decide +kernel) (by decide) ?_
      refine z_bipush (v := -4) (pc := 104) C dX7_signHere_104 (by decide) ?_
      exact z_iret (pc := 106) C ρ dX7_signHere_106 (⟨_, rfl, by simp only [s_sign, if_pos c_5, if_neg hs_38, if_neg hs_42, if_neg hs_43, if_neg hs_45, if_neg hs_47, if_neg hs_60, if_pos hs_61], rfl, rfl⟩)
    by_cases hs_62 : im M 15 = nI 62
    · 
      refine z_eqi (y := nI 62) hs_62 ?_
      refine z_lookup (off := 93) (pc := 14) C 107 dX7_signHere_14 (by decide +kernel) (by decide +kernel) (by decide) ?_
      refine z_bipush (v := -5) (pc := 107) C dX7_signHere_107 (by decide) ?_
      exact z_iret (pc := 109) C ρ dX7_signHere_109 (⟨_, rfl, by simp only [s_sign, if_pos c_5, if_neg hs_38, if_neg hs_42, if_neg hs_43, if_neg hs_45, if_neg hs_47, if_neg hs_60, if_neg hs_61, if_pos hs_62], rfl, rfl⟩)
    by_cases hs_124 : im M 15 = nI 124
    · 
      refine z_eqi (y := nI 124) hs_124 ?_
      refine z_lookup (off := 82) (pc := 14) C 96 dX7_signHere_14 (by decide +kernel) (by decide +kernel) (by decide) ?_
      refine z_iconst (v := -1) (pc := 96) C dX7_signHere_96 (by decide) ?_
      exact z_iret (pc := 97) C ρ dX7_signHere_97 (⟨_, rfl, by simp only [s_sign, if_pos c_5, if_neg hs_38, if_neg hs_42, if_neg hs_43, if_neg hs_45, if_neg hs_47, if_neg hs_60, if_neg hs_61, if_neg hs_62, if_pos hs_124], rfl, rfl⟩)
    refine z_lookup (pc := 14) C 122 dX7_signHere_14 (by decide +kernel) (off := 108) (by show Op.lookupswitch.offset [(38, 84), (42, 102), (43, 96), (45, 99), (47, 105), (60, 87), (61, 90), (62, 93), (124, 82)] 108 _ = _; rw [lv_osw hs_38 (show (nI 38 : Int32).toInt = 38 by decide), lv_osw hs_42 (show (nI 42 : Int32).toInt = 42 by decide), lv_osw hs_43 (show (nI 43 : Int32).toInt = 43 by decide), lv_osw hs_45 (show (nI 45 : Int32).toInt = 45 by decide), lv_osw hs_47 (show (nI 47 : Int32).toInt = 47 by decide), lv_osw hs_60 (show (nI 60 : Int32).toInt = 60 by decide), lv_osw hs_61 (show (nI 61 : Int32).toInt = 61 by decide), lv_osw hs_62 (show (nI 62 : Int32).toInt = 62 by decide), lv_osw hs_124 (show (nI 124 : Int32).toInt = 124 by decide)]; rfl) (by decide) ?_
    refine z_iconstN (pc := 122) C 0 dX7_signHere_122 ?_
    exact z_iret (pc := 123) C ρ dX7_signHere_123 (⟨_, rfl, by simp only [s_sign, if_pos c_5, if_neg hs_38, if_neg hs_42, if_neg hs_43, if_neg hs_45, if_neg hs_47, if_neg hs_60, if_neg hs_61, if_neg hs_62, if_neg hs_124], rfl, rfl⟩)
  · 
    refine z_iconstN (pc := 8) C 0 dX7_signHere_8 ?_
    exact z_iret (pc := 9) C ρ dX7_signHere_9 (⟨_, rfl, by simp only [s_sign, if_neg c_5], rfl, rfl⟩)
def nb : List Int32 → Nat
  | [] => 0
  | x :: xs => nb xs + (if x = -10 then 1 else 0)
theorem nb_le : ∀ W, nb W ≤ W.length := by
  intro W
  induction W with
  | nil => exact Nat.le_refl _
  | cons x xs ih => rw [nb, List.length_cons]; split <;> omega
set_option maxRecDepth 100000 in
set_option maxHeartbeats 4000000 in
theorem m7_notsOpen (l : Launch) (E : Ex) (S : Sx) (im : Mem) (M : Nat) (hM : ML S M) (cs W : List Int32) (hP : PSt M im cs W) : Mt l E yX7_notsOpen cX7_notsOpen 3 (some .int) 1 0 0 [.ref M] S im (pI (pE S im (nI (nb W)))) := by
  refine Mt.of (by decide +kernel) rfl rfl (Nat.le_of_ble_eq_true rfl) ?_
  intro κ hκ C ρ
  subst hκ
  show V E κ 3 0 0 0 [some (.ref M), none, none] [] S im
  have hl := hP.2.2.2.2
  have loop : ∀ (r q : Nat), q + r = W.length → V E κ 3 0 0 4 [some (.ref M), some (.int (nI (nb (W.drop (W.length - q))))), some (.int (nI q))] [] S im := by
    intro r
    induction r with
    | zero =>
      intro q hq
      refine z_iload_n (pc := 4) C dX7_notsOpen_4 rfl ?_
      refine z_aload_n (pc := 5) C dX7_notsOpen_5 rfl ?_
      refine gX7_233 (pc := 6) C dX7_notsOpen_6 (ml_K hM) ?_
      refine z_eqi (y := nI W.length) (hP.2.1) ?_
      refine z_icmp_geT (pc := 9) C 37 dX7_notsOpen_9 (by decide) (nI_le (by omega) (by omega)) ?_
      refine z_iload_n (pc := 37) C dX7_notsOpen_37 rfl ?_
      exact z_iret (pc := 38) C ρ dX7_notsOpen_38 (⟨_, rfl, by rw [show W.length - q = 0 by omega, List.drop_zero], rfl, rfl⟩)
    | succ r ih =>
      intro q hq
      refine z_iload_n (pc := 4) C dX7_notsOpen_4 rfl ?_
      refine z_aload_n (pc := 5) C dX7_notsOpen_5 rfl ?_
      refine gX7_233 (pc := 6) C dX7_notsOpen_6 (ml_K hM) ?_
      refine z_eqi (y := nI W.length) (hP.2.1) ?_
      refine z_icmp_geF (pc := 9) C 37 dX7_notsOpen_9 (by decide) (nI_ge (by omega) (by omega)) ?_
      refine z_iload_n (pc := 12) C dX7_notsOpen_12 rfl ?_
      refine z_aload_n (pc := 13) C dX7_notsOpen_13 rfl ?_
      refine gX7_52 (pc := 14) C dX7_notsOpen_14 (ml_K hM) (ml_r23 hM) ?_
      refine z_iload_n (pc := 17) C dX7_notsOpen_17 rfl ?_
      refine z_iald (pc := 18) C dX7_notsOpen_18 (ml_a13 hM) (ml_n13 hM) (by omega) (by decide) ?_
      refine z_eqi (y := W.getD (W.length - 1 - q) 0) (hP.2.2.2.1 q (by omega)) ?_
      refine z_bipush (v := -10) (pc := 19) C dX7_notsOpen_19 (by decide) ?_
      refine z_icmp_ne (pc := 21) C 28 dX7_notsOpen_21 (by decide) (fun c_21 => ?_) (fun c_21 => ?_)
      · 
        refine z_iconstN (pc := 28) C 0 dX7_notsOpen_28 ?_
        refine z_iaddN (pc := 29) C dX7_notsOpen_29 ?_
        refine z_istore_n (pc := 30) C dX7_notsOpen_30 (by decide) rfl ?_
        refine z_iincN (pc := 31) C 1 dX7_notsOpen_31 rfl (by decide) rfl ?_
        refine z_goto (pc := 34) C 4 dX7_notsOpen_34 (by decide) ?_
        have e29 : W.drop (W.length - (q + 1)) = W.getD (W.length - 1 - q) 0 :: W.drop (W.length - q) := by
          rw [List.drop_eq_getElem_cons (show W.length - (q + 1) < W.length by omega), show W.length - (q + 1) + 1 = W.length - q by omega]
          congr 1
          rw [List.getD_eq_getElem?_getD, show W.length - 1 - q = W.length - (q + 1) by omega, List.getElem?_eq_getElem (by omega)]
          rfl
        have := ih (q + 1) (by omega)
        rw [e29, nb, if_neg c_21] at this
        exact this
      · 
        refine z_iconstN (pc := 24) C 1 dX7_notsOpen_24 ?_
        refine z_goto (pc := 25) C 29 dX7_notsOpen_25 (by decide) ?_
        refine z_iaddN (pc := 29) C dX7_notsOpen_29 ?_
        refine z_istore_n (pc := 30) C dX7_notsOpen_30 (by decide) rfl ?_
        refine z_iincN (pc := 31) C 1 dX7_notsOpen_31 rfl (by decide) rfl ?_
        refine z_goto (pc := 34) C 4 dX7_notsOpen_34 (by decide) ?_
        have e29 : W.drop (W.length - (q + 1)) = W.getD (W.length - 1 - q) 0 :: W.drop (W.length - q) := by
          rw [List.drop_eq_getElem_cons (show W.length - (q + 1) < W.length by omega), show W.length - (q + 1) + 1 = W.length - q by omega]
          congr 1
          rw [List.getD_eq_getElem?_getD, show W.length - 1 - q = W.length - (q + 1) by omega, List.getElem?_eq_getElem (by omega)]
          rfl
        have := ih (q + 1) (by omega)
        rw [e29, nb, if_pos c_21] at this
        exact this
  refine z_iconstN (pc := 0) C 0 dX7_notsOpen_0 ?_
  refine z_istore_n (pc := 1) C dX7_notsOpen_1 (by decide) rfl ?_
  refine z_iconstN (pc := 2) C 0 dX7_notsOpen_2 ?_
  refine z_istore_n (pc := 3) C dX7_notsOpen_3 (by decide) rfl ?_
  have := loop W.length 0 (by omega)
  rw [Nat.sub_zero, List.drop_length] at this
  exact this
