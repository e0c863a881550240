/-! the class: a street's constructor -/
def skd : List Nat := [3, 11, 8, 14, 8]
def sln : List Nat := [0, 10, 10, 14, 3]
/-- a street as it begins -/
def SI (im : Mem) (q : Nat) : Prop := im q 1 = 0 ∧ im q 3 = 0 ∧ im q 4 = 0 ∧ im q 5 = nI 600 ∧ im q 6 = 0 ∧ im q 7 = 0 ∧ im q 8 = nI 1 ∧ im q 10 = 0 ∧ ∀ k, k < 3 → im (q + 4) k = -1000000005
theorem Al_rr {M j : Nat} {kd ln : Nat → Nat} {rr rr' : Nat → Nat → Option Nat} {S0 S : Sx} (h : Al M kd ln rr j S0 S) (e : ∀ k, k < j → rr' k = rr k) : Al M kd ln rr' j S0 S := ⟨h.1, fun k hk => ⟨(h.2.1 k hk).1, (h.2.1 k hk).2.1, (h.2.1 k hk).2.2.trans (e k hk).symm⟩, h.2.2⟩
set_option maxRecDepth 100000 in
set_option maxHeartbeats 4000000 in
theorem c3_init (l : Launch) (E : Ex) (S : Sx) (im : Mem) (q : Nat) (N : S.1 = q + 1) (K : S.2.1 q = 3) (K0 : S.2.2.1 q = 0) (KR : S.2.2.2 q = fun _ => none) (Z : im q = fun _ => 0) : Mt l E yX3_init cX3_init 2 none 3 14 107 [.ref q] S im (pV (fun S' im' => S'.1 = q + 15 ∧ SL S' q ∧ (∀ a, a < q → sE S S' a) ∧ (∀ a, a < q → im' a = im a) ∧ SI im' q)) := by
  refine Mt.of (by decide +kernel) rfl rfl (Nat.le_of_ble_eq_true rfl) ?_
  intro κ hκ C ρ
  subst hκ
  show V E κ 2 0 0 0 [some (.ref q), none] [] S im
  have A : Al q (fun k => skd.getD k 0) (fun k => sln.getD k 0) (fun _ _ => none) 1 S S := ⟨N, fun k hk => by rw [show k = 0 by omega]; exact ⟨K, K0, KR⟩, fun a _ => sE.rf⟩
  have Bm : Am q (fun _ _ => 0) 1 im im := ⟨fun k hk => by rw [show k = 0 by omega]; exact Z, fun a _ => rfl⟩
  refine z_aload_n (pc := 0) C dX3_init_0 rfl ?_
  refine z_obj (pc := 1) C dX3_init_1 wm_X3_3 (by decide) (Nat.le_of_ble_eq_true rfl) ?_
  refine z_aload_n (pc := 4) C dX3_init_4 rfl ?_
  refine z_bipushN (pc := 5) C 10 (by decide) dX3_init_5 ?_
  refine aX3_9 (pc := 7) C dX3_init_7 (by decide) (by omega) (by omega) ?_
  rw [A.1]
  have Bm := Am_new Bm A.1 rfl
  have A := Al_new (c := 11) (n := 10) A rfl rfl rfl
  generalize nS S 11 10 = S1 at A ⊢
  generalize nM S im = im1 at Bm ⊢
  refine pX3_11 (pc := 10) C dX3_init_10 (A.2.1 0 (by decide)).1 ?_
  have A := Al_put (k := 0) (f := 0) (a := q + 1) A (by decide)
  change Al _ _ _ _ _ _ (rS S1 q (va_up (S1.2.2.2 q) 0 (some (q + 1)))) at A
  generalize rS S1 q (va_up (S1.2.2.2 q) 0 (some (q + 1))) = S2 at A ⊢
  refine z_aload_n (pc := 13) C dX3_init_13 rfl ?_
  refine z_bipushN (pc := 14) C 10 (by decide) dX3_init_14 ?_
  refine z_newi (pc := 16) C dX3_init_16 (by decide) (by omega) (by omega) ?_
  rw [A.1]
  have Bm := Am_new Bm A.1 rfl
  have A := Al_new (c := 8) (n := 10) A rfl rfl rfl
  generalize nS S2 8 10 = S3 at A ⊢
  generalize nM S2 im1 = im3 at Bm ⊢
  refine pX3_17 (pc := 18) C dX3_init_18 (A.2.1 0 (by decide)).1 ?_
  have A := Al_put (k := 0) (f := 2) (a := q + 2) A (by decide)
  change Al _ _ _ _ _ _ (rS S3 q (va_up (S3.2.2.2 q) 2 (some (q + 2)))) at A
  generalize rS S3 q (va_up (S3.2.2.2 q) 2 (some (q + 2))) = S4 at A ⊢
  refine z_aload_n (pc := 21) C dX3_init_21 rfl ?_
  refine z_sipush (v := nI 600) (pc := 22) C dX3_init_22 (by decide +kernel) ?_
  refine pX3_21 (pc := 25) C dX3_init_25 (A.2.1 0 (by decide)).1 ?_
  have Bm := Am_up (k := 0) (x := 5) (v := (nI 600)) Bm (by decide)
  change Am _ _ _ _ (up2 im3 q 5 (nI 600)) at Bm
  generalize up2 im3 q 5 (nI 600) = im5 at Bm ⊢
  refine z_aload_n (pc := 28) C dX3_init_28 rfl ?_
  refine z_iconstN (pc := 29) C 1 dX3_init_29 ?_
  refine pX3_25 (pc := 30) C dX3_init_30 (A.2.1 0 (by decide)).1 ?_
  have Bm := Am_up (k := 0) (x := 8) (v := (nI 1)) Bm (by decide)
  change Am _ _ _ _ (up2 im5 q 8 (nI 1)) at Bm
  generalize up2 im5 q 8 (nI 1) = im6 at Bm ⊢
  refine z_aload_n (pc := 33) C dX3_init_33 rfl ?_
  refine z_bipushN (pc := 34) C 14 (by decide) dX3_init_34 ?_
  refine aX3_28 (pc := 36) C dX3_init_36 (by decide) (by omega) (by omega) ?_
  rw [A.1]
  have Bm := Am_new Bm A.1 rfl
  have A := Al_new (c := 14) (n := 14) A rfl rfl rfl
  generalize nS S4 14 14 = S7 at A ⊢
  generalize nM S4 im6 = im7 at Bm ⊢
  refine pX3_30 (pc := 39) C dX3_init_39 (A.2.1 0 (by decide)).1 ?_
  have A := Al_put (k := 0) (f := 9) (a := q + 3) A (by decide)
  change Al _ _ _ _ _ _ (rS S7 q (va_up (S7.2.2.2 q) 9 (some (q + 3)))) at A
  generalize rS S7 q (va_up (S7.2.2.2 q) 9 (some (q + 3))) = S8 at A ⊢
  refine z_aload_n (pc := 42) C dX3_init_42 rfl ?_
  refine z_iconstN (pc := 43) C 3 dX3_init_43 ?_
  refine z_newi (pc := 44) C dX3_init_44 (by decide) (by omega) (by omega) ?_
  rw [A.1]
  have Bm := Am_new Bm A.1 rfl
  have A := Al_new (c := 8) (n := 3) A rfl rfl rfl
  generalize nS S8 8 3 = S9 at A ⊢
  generalize nM S8 im7 = im9 at Bm ⊢
  refine z_dup (pc := 46) C dX3_init_46 rfl ?_
  refine z_iconstN (pc := 47) C 0 dX3_init_47 ?_
  refine z_ldc (pc := 48) C dX3_init_48 wk_X3_34 ?_
  refine z_iast (pc := 50) C dX3_init_50 (A.2.1 4 (by decide)).1 (A.2.1 4 (by decide)).2.1 (by decide) (by decide) ?_
  have Bm := Am_up (k := 4) (x := 0) (v := (-1000000005)) Bm (by decide)
  generalize up2 im9 (q + 4) 0 (-1000000005) = im10 at Bm ⊢
  refine z_dup (pc := 51) C dX3_init_51 rfl ?_
  refine z_iconstN (pc := 52) C 1 dX3_init_52 ?_
  refine z_ldc (pc := 53) C dX3_init_53 wk_X3_34 ?_
  refine z_iast (pc := 55) C dX3_init_55 (A.2.1 4 (by decide)).1 (A.2.1 4 (by decide)).2.1 (by decide) (by decide) ?_
  have Bm := Am_up (k := 4) (x := 1) (v := (-1000000005)) Bm (by decide)
  generalize up2 im10 (q + 4) 1 (-1000000005) = im11 at Bm ⊢
  refine z_dup (pc := 56) C dX3_init_56 rfl ?_
  refine z_iconstN (pc := 57) C 2 dX3_init_57 ?_
  refine z_ldc (pc := 58) C dX3_init_58 wk_X3_34 ?_
  refine z_iast (pc := 60) C dX3_init_60 (A.2.1 4 (by decide)).1 (A.2.1 4 (by decide)).2.1 (by decide) (by decide) ?_
  have Bm := Am_up (k := 4) (x := 2) (v := (-1000000005)) Bm (by decide)
  generalize up2 im11 (q + 4) 2 (-1000000005) = im12 at Bm ⊢
  refine pX3_35 (pc := 61) C dX3_init_61 (A.2.1 0 (by decide)).1 ?_
  have A := Al_put (k := 0) (f := 11) (a := q + 4) A (by decide)
  change Al _ _ _ _ _ _ (rS S9 q (va_up (S9.2.2.2 q) 11 (some (q + 4)))) at A
  generalize rS S9 q (va_up (S9.2.2.2 q) 11 (some (q + 4))) = S13 at A ⊢
  obtain ⟨RR0, hRR⟩ : ∃ RR0, RR0 = upR (upR (upR (upR (fun _ _ => none) 0 0 (q + 1)) 0 2 (q + 2)) 0 9 (q + 3)) 0 11 (q + 4) := ⟨_, rfl⟩
  rw [← hRR] at A
  have hr0 : RR0 0 0 = some (q + 1) := by rw [hRR]; rfl
  have hr2 : RR0 0 2 = some (q + 2) := by rw [hRR]; rfl
  have hr9 : RR0 0 9 = some (q + 3) := by rw [hRR]; rfl
  have hr11 : RR0 0 11 = some (q + 4) := by rw [hRR]; rfl
  have hr1 : RR0 1 = fun _ => none := by rw [hRR]; rfl
  have hrN : ∀ k, 5 ≤ k → RR0 k = fun _ => none := fun k hk => by
    rw [hRR]
    show va_up _ 0 _ k = _
    rw [up_n _ _ (by omega)]
    show va_up _ 0 _ k = _
    rw [up_n _ _ (by omega)]
    show va_up _ 0 _ k = _
    rw [up_n _ _ (by omega)]
    show va_up _ 0 _ k = _
    rw [up_n _ _ (by omega)]
  obtain ⟨IV, hIV⟩ : ∃ IV : Nat → Nat → Int32, ∀ k, k < 5 → IV k = (up2 (up2 (up2 (up2 (up2 (fun _ _ => 0) 0 5 (nI 600)) 0 8 (nI 1)) 4 0 (-1000000005)) 4 1 (-1000000005)) 4 2 (-1000000005)) k ∧ (∀ k, 5 ≤ k → IV k = fun _ => 0) := ⟨fun k => if k < 5 then (up2 (up2 (up2 (up2 (up2 (fun _ _ => 0) 0 5 (nI 600)) 0 8 (nI 1)) 4 0 (-1000000005)) 4 1 (-1000000005)) 4 2 (-1000000005)) k else fun _ => 0, fun k hk => ⟨if_pos hk, fun k hk => if_neg (by omega)⟩⟩
  have Bm : Am q IV 5 im im12 := ⟨fun k hk => (Bm.1 k hk).trans (hIV k hk).1.symm, Bm.2⟩
  have hI0 : IV 0 = (up2 (up2 (up2 (up2 (up2 (fun _ _ => 0) 0 5 (nI 600)) 0 8 (nI 1)) 4 0 (-1000000005)) 4 1 (-1000000005)) 4 2 (-1000000005)) 0 := (hIV 0 (by decide)).1
  have hI4 : IV 4 = (up2 (up2 (up2 (up2 (up2 (fun _ _ => 0) 0 5 (nI 600)) 0 8 (nI 1)) 4 0 (-1000000005)) 4 1 (-1000000005)) 4 2 (-1000000005)) 4 := (hIV 4 (by decide)).1
  have hIN := (hIV 0 (by decide)).2
  have hfin : ∀ (S' : Sx) (im' : Mem), Al q (fun k => skd.getD k 0) (fun k => sln.getD k 0) (fun k => if k = 1 then (fun t => if t < 10 then some (q + (5 + t)) else none) else RR0 k) 15 S S' → Am q IV 15 im im' → S'.1 = q + 15 ∧ SL S' q ∧ (∀ a, a < q → sE S S' a) ∧ (∀ a, a < q → im' a = im a) ∧ SI im' q := fun S' im' A Bm => by
    refine ⟨A.1, ⟨⟨(A.2.1 0 (by decide)).1, (congrFun (A.2.1 0 (by decide)).2.2 0).trans hr0, (congrFun (A.2.1 0 (by decide)).2.2 2).trans hr2, (congrFun (A.2.1 0 (by decide)).2.2 9).trans hr9, (congrFun (A.2.1 0 (by decide)).2.2 11).trans hr11⟩, ⟨(A.2.1 1 (by decide)).1, (A.2.1 1 (by decide)).2.1⟩, ⟨(A.2.1 2 (by decide)).1, (A.2.1 2 (by decide)).2.1⟩, ⟨(A.2.1 3 (by decide)).1, (A.2.1 3 (by decide)).2.1⟩, ⟨(A.2.1 4 (by decide)).1, (A.2.1 4 (by decide)).2.1⟩, fun i hi => ⟨(congrFun (A.2.1 1 (by decide)).2.2 i).trans ?_, ?_⟩⟩, A.2.2, Bm.2, ?_⟩
    · show (if i < 10 then some (q + (5 + i)) else none) = _
      rw [if_pos hi, show q + (5 + i) = q + 5 + i by omega]
    · rw [show q + 5 + i = q + (5 + i) by omega]
      refine (A.2.1 (5 + i) (by omega)).1.trans ?_
      rcases (show i = 0 ∨ i = 1 ∨ i = 2 ∨ i = 3 ∨ i = 4 ∨ i = 5 ∨ i = 6 ∨ i = 7 ∨ i = 8 ∨ i = 9 by omega) with rfl | rfl | rfl | rfl | rfl | rfl | rfl | rfl | rfl | rfl <;> rfl
    · have z0 := (Bm.1 0 (by decide)).trans hI0
      have z4 := (Bm.1 4 (by decide)).trans hI4
      exact ⟨(congrFun z0 1).trans rfl, (congrFun z0 3).trans rfl, (congrFun z0 4).trans rfl, (congrFun z0 5).trans rfl, (congrFun z0 6).trans rfl, (congrFun z0 7).trans rfl, (congrFun z0 8).trans rfl, (congrFun z0 10).trans rfl, fun k hk => by rcases (show k = 0 ∨ k = 1 ∨ k = 2 by omega) with rfl | rfl | rfl; exact (congrFun z4 0).trans rfl; exact (congrFun z4 1).trans rfl; exact (congrFun z4 2).trans rfl⟩
  have loop : ∀ (r i : Nat) (S' : Sx) (im' : Mem), i + r = 10 → Al q (fun k => skd.getD k 0) (fun k => sln.getD k 0) (fun k => if k = 1 then (fun t => if t < i then some (q + (5 + t)) else none) else RR0 k) (5 + i) S S' → Am q IV (5 + i) im im' → V E κ 2 (4 + i) (37 + 7 * i) 66 [some (.ref q), some (.int (nI i))] [] S' im' := by
    intro r
    induction r with
    | zero =>
      intro i S' im' hi A Bm
      refine z_iload_n (pc := 66) C dX3_init_66 rfl ?_
      refine z_bipushN (pc := 67) C 10 (by decide) dX3_init_67 ?_
      refine z_icmp_geT (pc := 69) C 91 dX3_init_69 (by decide) (nI_le (by omega) (by omega)) ?_
      refine z_widen (c1 := 14) (s1 := 107) (by omega) (by omega) ?_
      have e : i = 10 := by omega
      rw [e] at A Bm
      exact z_vret (pc := 91) C ρ dX3_init_91 ⟨rfl, hfin S' im' A Bm⟩
    | succ r ih =>
      intro i S' im' hi A Bm
      have hk5 : skd.getD (5 + i) 0 = 0 := by rcases (show i = 0 ∨ i = 1 ∨ i = 2 ∨ i = 3 ∨ i = 4 ∨ i = 5 ∨ i = 6 ∨ i = 7 ∨ i = 8 ∨ i = 9 by omega) with rfl | rfl | rfl | rfl | rfl | rfl | rfl | rfl | rfl | rfl <;> rfl
      have hl5 : sln.getD (5 + i) 0 = 0 := by rcases (show i = 0 ∨ i = 1 ∨ i = 2 ∨ i = 3 ∨ i = 4 ∨ i = 5 ∨ i = 6 ∨ i = 7 ∨ i = 8 ∨ i = 9 by omega) with rfl | rfl | rfl | rfl | rfl | rfl | rfl | rfl | rfl | rfl <;> rfl
      refine z_iload_n (pc := 66) C dX3_init_66 rfl ?_
      refine z_bipushN (pc := 67) C 10 (by decide) dX3_init_67 ?_
      refine z_icmp_geF (pc := 69) C 91 dX3_init_69 (by decide) (nI_ge (by omega) (by omega)) ?_
      refine z_aload_n (pc := 72) C dX3_init_72 rfl ?_
      refine gX3_11 (pc := 73) C dX3_init_73 (A.2.1 0 (by omega)).1 (a := q + 1) ((congrFun (A.2.1 0 (by omega)).2.2 0).trans hr0) ?_
      refine z_iload_n (pc := 76) C dX3_init_76 rfl ?_
      refine nX3_9 (pc := 77) C dX3_init_77 (by omega) (by omega) ?_
      rw [A.1]
      have Bm := Am_new Bm A.1 (hIN _ (by omega))
      have A := Al_new (c := 0) (n := 0) A hk5 hl5 (by show (if 5 + i = 1 then _ else RR0 (5 + i)) = _; rw [if_neg (by omega)]; exact hrN _ (by omega))
      generalize nS S' 0 0 = S1 at A ⊢
      generalize nM S' im' = im1 at Bm ⊢
      refine z_dup (pc := 80) C dX3_init_80 rfl ?_
      refine kX3_38 (pc := 81) C dX3_init_81 (c0_init κ.2.1 E S1 im1 (q + (5 + i))) (by decide) (Nat.le_of_ble_eq_true rfl) (by omega) (by omega) (fun S_81 im_81 h_81 => ?_)
      obtain ⟨rfl, rfl⟩ := h_81
      refine z_aast (pc := 84) C dX3_init_84 (A.2.1 1 (by omega)).1 (by decide) (A.2.1 1 (by omega)).2.1 (show i < 10 by omega) (by decide) (by rw [(A.2.1 (5 + i) (by omega)).1]; exact hk5) ?_
      have A := Al_put (k := 1) (f := i) (a := q + (5 + i)) A (by omega)
      generalize rS S1 (q + 1) (va_up (S1.2.2.2 (q + 1)) i (some (q + (5 + i)))) = S2 at A ⊢
      refine z_iincN (pc := 85) C 1 dX3_init_85 rfl (by decide) rfl ?_
      refine z_goto (pc := 88) C 66 dX3_init_88 (by decide) ?_
      refine z_widen (c1 := 4 + (i + 1)) (s1 := 37 + 7 * (i + 1)) (by omega) (by omega) ?_
      refine ih (i + 1) S2 im1 (by omega) (Al_rr A (fun k hk => ?_)) Bm
      show (if k = 1 then (fun t => if t < i + 1 then some (q + (5 + t)) else none) else RR0 k) = va_up _ 1 (va_up _ i (some (q + (5 + i)))) k
      by_cases e : k = 1
      · rw [e, if_pos rfl, up_s]
        funext t
        by_cases e2 : t = i
        · rw [e2, up_s, if_pos (by omega)]
        · rw [up_n _ _ e2]
          show _ = (if t < i then some (q + (5 + t)) else none)
          by_cases e3 : t < i
          · rw [if_pos e3, if_pos (by omega)]
          · rw [if_neg e3, if_neg (by omega)]
      · rw [if_neg e, up_n _ _ e]
        show _ = (if k = 1 then _ else RR0 k)
        rw [if_neg e]
  refine z_iconstN (pc := 64) C 0 dX3_init_64 ?_
  refine z_istore_n (pc := 65) C dX3_init_65 (by decide) rfl ?_
  refine z_widen (c1 := 4 + 0) (s1 := 37 + 7 * 0) (by omega) (by omega) ?_
  refine loop 10 0 _ _ (by omega) (Al_rr A (fun k hk => ?_)) Bm
  by_cases e : k = 1
  · rw [e, hr1]; rfl
  · exact if_neg e
