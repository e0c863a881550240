/-! constructors: cells laid one behind another -/
def Al (M : Nat) (kd ln : Nat → Nat) (rr : Nat → Nat → Option Nat) (j : Nat) (S0 S : Sx) : Prop := S.1 = M + j ∧ (∀ k, k < j → S.2.1 (M + k) = kd k ∧ S.2.2.1 (M + k) = ln k ∧ S.2.2.2 (M + k) = rr k) ∧ ∀ a, a < M → sE S0 S a
def upR (rr : Nat → Nat → Option Nat) (k f a : Nat) : Nat → Nat → Option Nat := va_up rr k (va_up (rr k) f (some a))
def Am (M : Nat) (iv : Nat → Nat → Int32) (j : Nat) (im0 im : Mem) : Prop := (∀ k, k < j → im (M + k) = iv k) ∧ ∀ a, a < M → im a = im0 a
theorem Al_new {M j c n : Nat} {kd ln : Nat → Nat} {rr : Nat → Nat → Option Nat} {S0 S : Sx} (h : Al M kd ln rr j S0 S) (hc : kd j = c) (hn : ln j = n) (hr : rr j = fun _ => none) : Al M kd ln rr (j + 1) S0 (nS S c n) := by
  obtain ⟨h1, h2, h3⟩ := h
  have e : ∀ a, a ≠ M + j → sE S (nS S c n) a := fun a ha => ⟨up_n _ _ (by rw [h1]; exact ha), up_n _ _ (by rw [h1]; exact ha), up_n _ _ (by rw [h1]; exact ha)⟩
  refine ⟨by show S.1 + 1 = _; omega, fun k hk => ?_, fun a ha => (h3 a ha).tr (e a (by omega))⟩
  by_cases q : k = j
  · rw [q, hc, hn, hr, ← h1]
    exact ⟨up_s _ _ _, up_s _ _ _, up_s _ _ _⟩
  · obtain ⟨a1, a2, a3⟩ := h2 k (by omega)
    obtain ⟨e1, e2, e3⟩ := e (M + k) (by omega)
    exact ⟨e1.trans a1, e2.trans a2, e3.trans a3⟩
theorem Al_put {M j k f a : Nat} {kd ln : Nat → Nat} {rr : Nat → Nat → Option Nat} {S0 S : Sx} (h : Al M kd ln rr j S0 S) (hk : k < j) : Al M kd ln (upR rr k f a) j S0 (rS S (M + k) (va_up (S.2.2.2 (M + k)) f (some a))) := by
  obtain ⟨h1, h2, h3⟩ := h
  refine ⟨h1, fun i hi => ?_, fun b hb => (h3 b hb).tr ⟨rfl, rfl, up_n _ _ (by omega)⟩⟩
  obtain ⟨a1, a2, a3⟩ := h2 i hi
  refine ⟨a1, a2, ?_⟩
  show va_up S.2.2.2 (M + k) _ (M + i) = va_up rr k (va_up (rr k) f (some a)) i
  by_cases q : i = k
  · rw [q, up_s, up_s, (h2 k hk).2.2]
  · rw [up_n _ _ (by omega), up_n _ _ q]; exact a3
theorem Am_new {M j : Nat} {iv : Nat → Nat → Int32} {im0 im : Mem} {S : Sx} (h : Am M iv j im0 im) (hS : S.1 = M + j) (hz : iv j = fun _ => 0) : Am M iv (j + 1) im0 (nM S im) := by
  obtain ⟨h1, h2⟩ := h
  refine ⟨fun k hk => ?_, fun a ha => (up_n _ _ (by rw [hS]; omega)).trans (h2 a ha)⟩
  by_cases q : k = j
  · rw [q, hz, ← hS]; exact up_s _ _ _
  · exact (up_n _ _ (by rw [hS]; omega)).trans (h1 k (by omega))
theorem Am_up {M j k x : Nat} {v : Int32} {iv : Nat → Nat → Int32} {im0 im : Mem} (h : Am M iv j im0 im) (hk : k < j) : Am M (up2 iv k x v) j im0 (up2 im (M + k) x v) := by
  obtain ⟨h1, h2⟩ := h
  refine ⟨fun i hi => ?_, fun a ha => (up2_n _ _ _ (by omega)).trans (h2 a ha)⟩
  by_cases q : i = k
  · rw [q, up2_s, up2_s, h1 k hk]
  · rw [up2_n _ _ _ (by omega), up2_n _ _ _ q]; exact h1 i hi
set_option maxRecDepth 100000 in
set_option maxHeartbeats 4000000 in
theorem m7_init (l : Launch) (E : Ex) (S : Sx) (im : Mem) (M : Nat) (N : S.1 = M + 1) (K : S.2.1 M = 7) (K0 : S.2.2.1 M = 0) (KR : S.2.2.2 M = fun _ => none) (Z : im M = fun _ => 0) : Mt l E yX7_init cX7_init 1 none 2 25 5204 [.ref M] S im (pV (fun S' im' => S'.1 = M + 26 ∧ ML S' M ∧ (∀ a, a < M → sE S S' a) ∧ (∀ a, a < M → im' a = im a) ∧ im' M 3 = 0 ∧ im' M 4 = -1 ∧ im' M 11 = 0 ∧ im' M 37 = 0 ∧ im' (M + 1) = upd (upd (fun _ => 0) 0 (nI 1)) 5 (nI 600) ∧ KyOk M im' ∧ (∀ s, s < 4 → im' (M + 17) s = -1) ∧ im' (M + 18) = (fun _ => 0) ∧ im' (M + 19) = (fun _ => 0) ∧ im' (M + 20) = (fun _ => 0) ∧ im' (M + 9) = (fun _ => 0) ∧ im' (M + 25) = fun _ => 0)) := by
  refine Mt.of (by decide +kernel) rfl rfl (Nat.le_of_ble_eq_true rfl) ?_
  intro κ hκ C ρ
  subst hκ
  show V E κ 1 0 0 0 [some (.ref M)] [] S im
  have A : Al M (fun k => mkd.getD k 0) (fun k => mln.getD k 0) (fun _ _ => none) 1 S S := ⟨N, fun k hk => by rw [show k = 0 by omega]; exact ⟨K, K0, KR⟩, fun a _ => sE.rf⟩
  have Bm : Am M (fun _ _ => 0) 1 im im := ⟨fun k hk => by rw [show k = 0 by omega]; exact Z, fun a _ => rfl⟩
  refine z_aload_n (pc := 0) C dX7_init_0 rfl ?_
  refine z_obj (pc := 1) C dX7_init_1 wm_X7_1 (by decide) (Nat.le_of_ble_eq_true rfl) ?_
  refine z_aload_n (pc := 4) C dX7_init_4 rfl ?_
  refine z_sipush (v := nI 1450) (pc := 5) C dX7_init_5 (by decide +kernel) ?_
  refine z_newi (pc := 8) C dX7_init_8 (by decide) (by omega) (by omega) ?_
  rw [A.1]
  have Bm := Am_new Bm A.1 rfl
  have A := Al_new (c := 8) (n := 1450) A rfl rfl rfl
  generalize nS S 8 1450 = S1 at A ⊢
  generalize nM S im = im1 at Bm ⊢
  refine pX7_9 (pc := 10) C dX7_init_10 (A.2.1 0 (by decide)).1 ?_
  have A := Al_put (k := 0) (f := 0) (a := M + 1) A (by decide)
  change Al _ _ _ _ _ _ (rS S1 M (va_up (S1.2.2.2 M) 0 (some (M + 1)))) at A
  generalize rS S1 M (va_up (S1.2.2.2 M) 0 (some (M + 1))) = S2 at A ⊢
  refine z_aload_n (pc := 13) C dX7_init_13 rfl ?_
  refine z_sipush (v := nI 1450) (pc := 14) C dX7_init_14 (by decide +kernel) ?_
  refine z_newi (pc := 17) C dX7_init_17 (by decide) (by omega) (by omega) ?_
  rw [A.1]
  have Bm := Am_new Bm A.1 rfl
  have A := Al_new (c := 8) (n := 1450) A rfl rfl rfl
  generalize nS S2 8 1450 = S3 at A ⊢
  generalize nM S2 im1 = im3 at Bm ⊢
  refine pX7_13 (pc := 19) C dX7_init_19 (A.2.1 0 (by decide)).1 ?_
  have A := Al_put (k := 0) (f := 1) (a := M + 2) A (by decide)
  change Al _ _ _ _ _ _ (rS S3 M (va_up (S3.2.2.2 M) 1 (some (M + 2)))) at A
  generalize rS S3 M (va_up (S3.2.2.2 M) 1 (some (M + 2))) = S4 at A ⊢
  refine z_aload_n (pc := 22) C dX7_init_22 rfl ?_
  refine z_sipush (v := nI 1450) (pc := 23) C dX7_init_23 (by decide +kernel) ?_
  refine z_newi (pc := 26) C dX7_init_26 (by decide) (by omega) (by omega) ?_
  rw [A.1]
  have Bm := Am_new Bm A.1 rfl
  have A := Al_new (c := 8) (n := 1450) A rfl rfl rfl
  generalize nS S4 8 1450 = S5 at A ⊢
  generalize nM S4 im3 = im5 at Bm ⊢
  refine pX7_16 (pc := 28) C dX7_init_28 (A.2.1 0 (by decide)).1 ?_
  have A := Al_put (k := 0) (f := 2) (a := M + 3) A (by decide)
  change Al _ _ _ _ _ _ (rS S5 M (va_up (S5.2.2.2 M) 2 (some (M + 3)))) at A
  generalize rS S5 M (va_up (S5.2.2.2 M) 2 (some (M + 3))) = S6 at A ⊢
  refine z_aload_n (pc := 31) C dX7_init_31 rfl ?_
  refine z_iconst (v := -1) (pc := 32) C dX7_init_32 (by decide) ?_
  refine pX7_19 (pc := 33) C dX7_init_33 (A.2.1 0 (by decide)).1 ?_
  have Bm := Am_up (k := 0) (x := 4) (v := (-1)) Bm (by decide)
  change Am _ _ _ _ (up2 im5 M 4 (-1)) at Bm
  generalize up2 im5 M 4 (-1) = im7 at Bm ⊢
  refine z_aload_n (pc := 36) C dX7_init_36 rfl ?_
  refine z_bipushN (pc := 37) C 10 (by decide) dX7_init_37 ?_
  refine z_newi (pc := 39) C dX7_init_39 (by decide) (by omega) (by omega) ?_
  rw [A.1]
  have Bm := Am_new Bm A.1 rfl
  have A := Al_new (c := 8) (n := 10) A rfl rfl rfl
  generalize nS S6 8 10 = S8 at A ⊢
  generalize nM S6 im7 = im8 at Bm ⊢
  refine pX7_23 (pc := 41) C dX7_init_41 (A.2.1 0 (by decide)).1 ?_
  have A := Al_put (k := 0) (f := 5) (a := M + 4) A (by decide)
  change Al _ _ _ _ _ _ (rS S8 M (va_up (S8.2.2.2 M) 5 (some (M + 4)))) at A
  generalize rS S8 M (va_up (S8.2.2.2 M) 5 (some (M + 4))) = S9 at A ⊢
  refine z_aload_n (pc := 44) C dX7_init_44 rfl ?_
  refine z_bipushN (pc := 45) C 10 (by decide) dX7_init_45 ?_
  refine z_newz (pc := 47) C dX7_init_47 (by decide) (by omega) (by omega) ?_
  rw [A.1]
  have Bm := Am_new Bm A.1 rfl
  have A := Al_new (c := 9) (n := 10) A rfl rfl rfl
  generalize nS S9 9 10 = S10 at A ⊢
  generalize nM S9 im8 = im10 at Bm ⊢
  refine pX7_26 (pc := 49) C dX7_init_49 (A.2.1 0 (by decide)).1 ?_
  have A := Al_put (k := 0) (f := 6) (a := M + 5) A (by decide)
  change Al _ _ _ _ _ _ (rS S10 M (va_up (S10.2.2.2 M) 6 (some (M + 5)))) at A
  generalize rS S10 M (va_up (S10.2.2.2 M) 6 (some (M + 5))) = S11 at A ⊢
  refine z_aload_n (pc := 52) C dX7_init_52 rfl ?_
  refine z_bipushN (pc := 53) C 78 (by decide) dX7_init_53 ?_
  refine z_newi (pc := 55) C dX7_init_55 (by decide) (by omega) (by omega) ?_
  rw [A.1]
  have Bm := Am_new Bm A.1 rfl
  have A := Al_new (c := 8) (n := 78) A rfl rfl rfl
  generalize nS S11 8 78 = S12 at A ⊢
  generalize nM S11 im10 = im12 at Bm ⊢
  refine pX7_30 (pc := 57) C dX7_init_57 (A.2.1 0 (by decide)).1 ?_
  have A := Al_put (k := 0) (f := 7) (a := M + 6) A (by decide)
  change Al _ _ _ _ _ _ (rS S12 M (va_up (S12.2.2.2 M) 7 (some (M + 6)))) at A
  generalize rS S12 M (va_up (S12.2.2.2 M) 7 (some (M + 6))) = S13 at A ⊢
  refine z_aload_n (pc := 60) C dX7_init_60 rfl ?_
  refine z_bipushN (pc := 61) C 10 (by decide) dX7_init_61 ?_
  refine z_newi (pc := 63) C dX7_init_63 (by decide) (by omega) (by omega) ?_
  rw [A.1]
  have Bm := Am_new Bm A.1 rfl
  have A := Al_new (c := 8) (n := 10) A rfl rfl rfl
  generalize nS S13 8 10 = S14 at A ⊢
  generalize nM S13 im12 = im14 at Bm ⊢
  refine pX7_33 (pc := 65) C dX7_init_65 (A.2.1 0 (by decide)).1 ?_
  have A := Al_put (k := 0) (f := 8) (a := M + 7) A (by decide)
  change Al _ _ _ _ _ _ (rS S14 M (va_up (S14.2.2.2 M) 8 (some (M + 7)))) at A
  generalize rS S14 M (va_up (S14.2.2.2 M) 8 (some (M + 7))) = S15 at A ⊢
  refine z_aload_n (pc := 68) C dX7_init_68 rfl ?_
  refine z_bipushN (pc := 69) C 10 (by decide) dX7_init_69 ?_
  refine z_newi (pc := 71) C dX7_init_71 (by decide) (by omega) (by omega) ?_
  rw [A.1]
  have Bm := Am_new Bm A.1 rfl
  have A := Al_new (c := 8) (n := 10) A rfl rfl rfl
  generalize nS S15 8 10 = S16 at A ⊢
  generalize nM S15 im14 = im16 at Bm ⊢
  refine pX7_36 (pc := 73) C dX7_init_73 (A.2.1 0 (by decide)).1 ?_
  have A := Al_put (k := 0) (f := 9) (a := M + 8) A (by decide)
  change Al _ _ _ _ _ _ (rS S16 M (va_up (S16.2.2.2 M) 9 (some (M + 8)))) at A
  generalize rS S16 M (va_up (S16.2.2.2 M) 9 (some (M + 8))) = S17 at A ⊢
  refine z_aload_n (pc := 76) C dX7_init_76 rfl ?_
  refine z_bipushN (pc := 77) C 96 (by decide) dX7_init_77 ?_
  refine z_newi (pc := 79) C dX7_init_79 (by decide) (by omega) (by omega) ?_
  rw [A.1]
  have Bm := Am_new Bm A.1 rfl
  have A := Al_new (c := 8) (n := 96) A rfl rfl rfl
  generalize nS S17 8 96 = S18 at A ⊢
  generalize nM S17 im16 = im18 at Bm ⊢
  refine pX7_39 (pc := 81) C dX7_init_81 (A.2.1 0 (by decide)).1 ?_
  have A := Al_put (k := 0) (f := 10) (a := M + 9) A (by decide)
  change Al _ _ _ _ _ _ (rS S18 M (va_up (S18.2.2.2 M) 10 (some (M + 9)))) at A
  generalize rS S18 M (va_up (S18.2.2.2 M) 10 (some (M + 9))) = S19 at A ⊢
  refine z_aload_n (pc := 84) C dX7_init_84 rfl ?_
  refine z_bipushN (pc := 85) C 11 (by decide) dX7_init_85 ?_
  refine z_newc (pc := 87) C dX7_init_87 (by decide) (by omega) (by omega) ?_
  rw [A.1]
  have Bm := Am_new Bm A.1 rfl
  have A := Al_new (c := 10) (n := 11) A rfl rfl rfl
  generalize nS S19 10 11 = S20 at A ⊢
  generalize nM S19 im18 = im20 at Bm ⊢
  refine z_dup (pc := 89) C dX7_init_89 rfl ?_
  refine z_iconstN (pc := 90) C 0 dX7_init_90 ?_
  refine z_bipushN (pc := 91) C 98 (by decide) dX7_init_91 ?_
  refine z_cast (pc := 93) C dX7_init_93 (A.2.1 10 (by decide)).1 (A.2.1 10 (by decide)).2.1 (by decide) (by decide) (by decide +kernel) ?_
  have Bm := Am_up (k := 10) (x := 0) (v := (nI 98)) Bm (by decide)
  generalize up2 im20 (M + 10) 0 (nI 98) = im21 at Bm ⊢
  refine z_dup (pc := 94) C dX7_init_94 rfl ?_
  refine z_iconstN (pc := 95) C 1 dX7_init_95 ?_
  refine z_bipushN (pc := 96) C 117 (by decide) dX7_init_96 ?_
  refine z_cast (pc := 98) C dX7_init_98 (A.2.1 10 (by decide)).1 (A.2.1 10 (by decide)).2.1 (by decide) (by decide) (by decide +kernel) ?_
  have Bm := Am_up (k := 10) (x := 1) (v := (nI 117)) Bm (by decide)
  generalize up2 im21 (M + 10) 1 (nI 117) = im22 at Bm ⊢
  refine z_dup (pc := 99) C dX7_init_99 rfl ?_
  refine z_iconstN (pc := 100) C 2 dX7_init_100 ?_
  refine z_bipushN (pc := 101) C 114 (by decide) dX7_init_101 ?_
  refine z_cast (pc := 103) C dX7_init_103 (A.2.1 10 (by decide)).1 (A.2.1 10 (by decide)).2.1 (by decide) (by decide) (by decide +kernel) ?_
  have Bm := Am_up (k := 10) (x := 2) (v := (nI 114)) Bm (by decide)
  generalize up2 im22 (M + 10) 2 (nI 114) = im23 at Bm ⊢
  refine z_dup (pc := 104) C dX7_init_104 rfl ?_
  refine z_iconstN (pc := 105) C 3 dX7_init_105 ?_
  refine z_bipushN (pc := 106) C 110 (by decide) dX7_init_106 ?_
  refine z_cast (pc := 108) C dX7_init_108 (A.2.1 10 (by decide)).1 (A.2.1 10 (by decide)).2.1 (by decide) (by decide) (by decide +kernel) ?_
  have Bm := Am_up (k := 10) (x := 3) (v := (nI 110)) Bm (by decide)
  generalize up2 im23 (M + 10) 3 (nI 110) = im24 at Bm ⊢
  refine z_dup (pc := 109) C dX7_init_109 rfl ?_
  refine z_iconstN (pc := 110) C 4 dX7_init_110 ?_
  refine z_bipushN (pc := 111) C 102 (by decide) dX7_init_111 ?_
  refine z_cast (pc := 113) C dX7_init_113 (A.2.1 10 (by decide)).1 (A.2.1 10 (by decide)).2.1 (by decide) (by decide) (by decide +kernel) ?_
  have Bm := Am_up (k := 10) (x := 4) (v := (nI 102)) Bm (by decide)
  generalize up2 im24 (M + 10) 4 (nI 102) = im25 at Bm ⊢
  refine z_dup (pc := 114) C dX7_init_114 rfl ?_
  refine z_iconstN (pc := 115) C 5 dX7_init_115 ?_
  refine z_bipushN (pc := 116) C 101 (by decide) dX7_init_116 ?_
  refine z_cast (pc := 118) C dX7_init_118 (A.2.1 10 (by decide)).1 (A.2.1 10 (by decide)).2.1 (by decide) (by decide) (by decide +kernel) ?_
  have Bm := Am_up (k := 10) (x := 5) (v := (nI 101)) Bm (by decide)
  generalize up2 im25 (M + 10) 5 (nI 101) = im26 at Bm ⊢
  refine z_dup (pc := 119) C dX7_init_119 rfl ?_
  refine z_bipushN (pc := 120) C 6 (by decide) dX7_init_120 ?_
  refine z_bipushN (pc := 122) C 101 (by decide) dX7_init_122 ?_
  refine z_cast (pc := 124) C dX7_init_124 (A.2.1 10 (by decide)).1 (A.2.1 10 (by decide)).2.1 (by decide) (by decide) (by decide +kernel) ?_
  have Bm := Am_up (k := 10) (x := 6) (v := (nI 101)) Bm (by decide)
  generalize up2 im26 (M + 10) 6 (nI 101) = im27 at Bm ⊢
  refine z_dup (pc := 125) C dX7_init_125 rfl ?_
  refine z_bipushN (pc := 126) C 7 (by decide) dX7_init_126 ?_
  refine z_bipushN (pc := 128) C 102 (by decide) dX7_init_128 ?_
  refine z_cast (pc := 130) C dX7_init_130 (A.2.1 10 (by decide)).1 (A.2.1 10 (by decide)).2.1 (by decide) (by decide) (by decide +kernel) ?_
  have Bm := Am_up (k := 10) (x := 7) (v := (nI 102)) Bm (by decide)
  generalize up2 im27 (M + 10) 7 (nI 102) = im28 at Bm ⊢
  refine z_dup (pc := 131) C dX7_init_131 rfl ?_
  refine z_bipushN (pc := 132) C 8 (by decide) dX7_init_132 ?_
  refine z_bipushN (pc := 134) C 105 (by decide) dX7_init_134 ?_
  refine z_cast (pc := 136) C dX7_init_136 (A.2.1 10 (by decide)).1 (A.2.1 10 (by decide)).2.1 (by decide) (by decide) (by decide +kernel) ?_
  have Bm := Am_up (k := 10) (x := 8) (v := (nI 105)) Bm (by decide)
  generalize up2 im28 (M + 10) 8 (nI 105) = im29 at Bm ⊢
  refine z_dup (pc := 137) C dX7_init_137 rfl ?_
  refine z_bipushN (pc := 138) C 9 (by decide) dX7_init_138 ?_
  refine z_bipushN (pc := 140) C 110 (by decide) dX7_init_140 ?_
  refine z_cast (pc := 142) C dX7_init_142 (A.2.1 10 (by decide)).1 (A.2.1 10 (by decide)).2.1 (by decide) (by decide) (by decide +kernel) ?_
  have Bm := Am_up (k := 10) (x := 9) (v := (nI 110)) Bm (by decide)
  generalize up2 im29 (M + 10) 9 (nI 110) = im30 at Bm ⊢
  refine z_dup (pc := 143) C dX7_init_143 rfl ?_
  refine z_bipushN (pc := 144) C 10 (by decide) dX7_init_144 ?_
  refine z_bipushN (pc := 146) C 101 (by decide) dX7_init_146 ?_
  refine z_cast (pc := 148) C dX7_init_148 (A.2.1 10 (by decide)).1 (A.2.1 10 (by decide)).2.1 (by decide) (by decide) (by decide +kernel) ?_
  have Bm := Am_up (k := 10) (x := 10) (v := (nI 101)) Bm (by decide)
  generalize up2 im30 (M + 10) 10 (nI 101) = im31 at Bm ⊢
  refine pX7_42 (pc := 149) C dX7_init_149 (A.2.1 0 (by decide)).1 ?_
  have A := Al_put (k := 0) (f := 18) (a := M + 10) A (by decide)
  change Al _ _ _ _ _ _ (rS S20 M (va_up (S20.2.2.2 M) 18 (some (M + 10)))) at A
  generalize rS S20 M (va_up (S20.2.2.2 M) 18 (some (M + 10))) = S32 at A ⊢
  refine z_aload_n (pc := 152) C dX7_init_152 rfl ?_
  refine z_iconstN (pc := 153) C 4 dX7_init_153 ?_
  refine z_newi (pc := 154) C dX7_init_154 (by decide) (by omega) (by omega) ?_
  rw [A.1]
  have Bm := Am_new Bm A.1 rfl
  have A := Al_new (c := 8) (n := 4) A rfl rfl rfl
  generalize nS S32 8 4 = S33 at A ⊢
  generalize nM S32 im31 = im33 at Bm ⊢
  refine z_dup (pc := 156) C dX7_init_156 rfl ?_
  refine z_iconstN (pc := 157) C 0 dX7_init_157 ?_
  refine z_iconstN (pc := 158) C 0 dX7_init_158 ?_
  refine z_iast (pc := 159) C dX7_init_159 (A.2.1 11 (by decide)).1 (A.2.1 11 (by decide)).2.1 (by decide) (by decide) ?_
  have Bm := Am_up (k := 11) (x := 0) (v := (nI 0)) Bm (by decide)
  generalize up2 im33 (M + 11) 0 (nI 0) = im34 at Bm ⊢
  refine z_dup (pc := 160) C dX7_init_160 rfl ?_
  refine z_iconstN (pc := 161) C 1 dX7_init_161 ?_
  refine z_iconstN (pc := 162) C 4 dX7_init_162 ?_
  refine z_iast (pc := 163) C dX7_init_163 (A.2.1 11 (by decide)).1 (A.2.1 11 (by decide)).2.1 (by decide) (by decide) ?_
  have Bm := Am_up (k := 11) (x := 1) (v := (nI 4)) Bm (by decide)
  generalize up2 im34 (M + 11) 1 (nI 4) = im35 at Bm ⊢
  refine z_dup (pc := 164) C dX7_init_164 rfl ?_
  refine z_iconstN (pc := 165) C 2 dX7_init_165 ?_
  refine z_bipushN (pc := 166) C 7 (by decide) dX7_init_166 ?_
  refine z_iast (pc := 168) C dX7_init_168 (A.2.1 11 (by decide)).1 (A.2.1 11 (by decide)).2.1 (by decide) (by decide) ?_
  have Bm := Am_up (k := 11) (x := 2) (v := (nI 7)) Bm (by decide)
  generalize up2 im35 (M + 11) 2 (nI 7) = im36 at Bm ⊢
  refine z_dup (pc := 169) C dX7_init_169 rfl ?_
  refine z_iconstN (pc := 170) C 3 dX7_init_170 ?_
  refine z_bipushN (pc := 171) C 11 (by decide) dX7_init_171 ?_
  refine z_iast (pc := 173) C dX7_init_173 (A.2.1 11 (by decide)).1 (A.2.1 11 (by decide)).2.1 (by decide) (by decide) ?_
  have Bm := Am_up (k := 11) (x := 3) (v := (nI 11)) Bm (by decide)
  generalize up2 im36 (M + 11) 3 (nI 11) = im37 at Bm ⊢
  refine pX7_46 (pc := 174) C dX7_init_174 (A.2.1 0 (by decide)).1 ?_
  have A := Al_put (k := 0) (f := 19) (a := M + 11) A (by decide)
  change Al _ _ _ _ _ _ (rS S33 M (va_up (S33.2.2.2 M) 19 (some (M + 11)))) at A
  generalize rS S33 M (va_up (S33.2.2.2 M) 19 (some (M + 11))) = S38 at A ⊢
  refine z_aload_n (pc := 177) C dX7_init_177 rfl ?_
  refine z_bipushN (pc := 178) C 96 (by decide) dX7_init_178 ?_
  refine z_newi (pc := 180) C dX7_init_180 (by decide) (by omega) (by omega) ?_
  rw [A.1]
  have Bm := Am_new Bm A.1 rfl
  have A := Al_new (c := 8) (n := 96) A rfl rfl rfl
  generalize nS S38 8 96 = S39 at A ⊢
  generalize nM S38 im37 = im39 at Bm ⊢
  refine pX7_49 (pc := 182) C dX7_init_182 (A.2.1 0 (by decide)).1 ?_
  have A := Al_put (k := 0) (f := 20) (a := M + 12) A (by decide)
  change Al _ _ _ _ _ _ (rS S39 M (va_up (S39.2.2.2 M) 20 (some (M + 12)))) at A
  generalize rS S39 M (va_up (S39.2.2.2 M) 20 (some (M + 12))) = S40 at A ⊢
  refine z_aload_n (pc := 185) C dX7_init_185 rfl ?_
  refine z_bipushN (pc := 186) C 96 (by decide) dX7_init_186 ?_
  refine z_newi (pc := 188) C dX7_init_188 (by decide) (by omega) (by omega) ?_
  rw [A.1]
  have Bm := Am_new Bm A.1 rfl
  have A := Al_new (c := 8) (n := 96) A rfl rfl rfl
  generalize nS S40 8 96 = S41 at A ⊢
  generalize nM S40 im39 = im41 at Bm ⊢
  refine pX7_52 (pc := 190) C dX7_init_190 (A.2.1 0 (by decide)).1 ?_
  have A := Al_put (k := 0) (f := 23) (a := M + 13) A (by decide)
  change Al _ _ _ _ _ _ (rS S41 M (va_up (S41.2.2.2 M) 23 (some (M + 13)))) at A
  generalize rS S41 M (va_up (S41.2.2.2 M) 23 (some (M + 13))) = S42 at A ⊢
  refine z_aload_n (pc := 193) C dX7_init_193 rfl ?_
  refine z_bipushN (pc := 194) C 10 (by decide) dX7_init_194 ?_
  refine z_newz (pc := 196) C dX7_init_196 (by decide) (by omega) (by omega) ?_
  rw [A.1]
  have Bm := Am_new Bm A.1 rfl
  have A := Al_new (c := 9) (n := 10) A rfl rfl rfl
  generalize nS S42 9 10 = S43 at A ⊢
  generalize nM S42 im41 = im43 at Bm ⊢
  refine pX7_55 (pc := 198) C dX7_init_198 (A.2.1 0 (by decide)).1 ?_
  have A := Al_put (k := 0) (f := 25) (a := M + 14) A (by decide)
  change Al _ _ _ _ _ _ (rS S43 M (va_up (S43.2.2.2 M) 25 (some (M + 14)))) at A
  generalize rS S43 M (va_up (S43.2.2.2 M) 25 (some (M + 14))) = S44 at A ⊢
  refine z_aload_n (pc := 201) C dX7_init_201 rfl ?_
  refine z_bipushN (pc := 202) C 96 (by decide) dX7_init_202 ?_
  refine z_newi (pc := 204) C dX7_init_204 (by decide) (by omega) (by omega) ?_
  rw [A.1]
  have Bm := Am_new Bm A.1 rfl
  have A := Al_new (c := 8) (n := 96) A rfl rfl rfl
  generalize nS S44 8 96 = S45 at A ⊢
  generalize nM S44 im43 = im45 at Bm ⊢
  refine pX7_58 (pc := 206) C dX7_init_206 (A.2.1 0 (by decide)).1 ?_
  have A := Al_put (k := 0) (f := 26) (a := M + 15) A (by decide)
  change Al _ _ _ _ _ _ (rS S45 M (va_up (S45.2.2.2 M) 26 (some (M + 15)))) at A
  generalize rS S45 M (va_up (S45.2.2.2 M) 26 (some (M + 15))) = S46 at A ⊢
  refine z_aload_n (pc := 209) C dX7_init_209 rfl ?_
  refine z_iconstN (pc := 210) C 4 dX7_init_210 ?_
  refine z_newi (pc := 211) C dX7_init_211 (by decide) (by omega) (by omega) ?_
  rw [A.1]
  have Bm := Am_new Bm A.1 rfl
  have A := Al_new (c := 8) (n := 4) A rfl rfl rfl
  generalize nS S46 8 4 = S47 at A ⊢
  generalize nM S46 im45 = im47 at Bm ⊢
  refine pX7_61 (pc := 213) C dX7_init_213 (A.2.1 0 (by decide)).1 ?_
  have A := Al_put (k := 0) (f := 27) (a := M + 16) A (by decide)
  change Al _ _ _ _ _ _ (rS S47 M (va_up (S47.2.2.2 M) 27 (some (M + 16)))) at A
  generalize rS S47 M (va_up (S47.2.2.2 M) 27 (some (M + 16))) = S48 at A ⊢
  refine z_aload_n (pc := 216) C dX7_init_216 rfl ?_
  refine z_iconstN (pc := 217) C 4 dX7_init_217 ?_
  refine z_newi (pc := 218) C dX7_init_218 (by decide) (by omega) (by omega) ?_
  rw [A.1]
  have Bm := Am_new Bm A.1 rfl
  have A := Al_new (c := 8) (n := 4) A rfl rfl rfl
  generalize nS S48 8 4 = S49 at A ⊢
  generalize nM S48 im47 = im49 at Bm ⊢
  refine z_dup (pc := 220) C dX7_init_220 rfl ?_
  refine z_iconstN (pc := 221) C 0 dX7_init_221 ?_
  refine z_iconst (v := -1) (pc := 222) C dX7_init_222 (by decide) ?_
  refine z_iast (pc := 223) C dX7_init_223 (A.2.1 17 (by decide)).1 (A.2.1 17 (by decide)).2.1 (by decide) (by decide) ?_
  have Bm := Am_up (k := 17) (x := 0) (v := (-1)) Bm (by decide)
  generalize up2 im49 (M + 17) 0 (-1) = im50 at Bm ⊢
  refine z_dup (pc := 224) C dX7_init_224 rfl ?_
  refine z_iconstN (pc := 225) C 1 dX7_init_225 ?_
  refine z_iconst (v := -1) (pc := 226) C dX7_init_226 (by decide) ?_
  refine z_iast (pc := 227) C dX7_init_227 (A.2.1 17 (by decide)).1 (A.2.1 17 (by decide)).2.1 (by decide) (by decide) ?_
  have Bm := Am_up (k := 17) (x := 1) (v := (-1)) Bm (by decide)
  generalize up2 im50 (M + 17) 1 (-1) = im51 at Bm ⊢
  refine z_dup (pc := 228) C dX7_init_228 rfl ?_
  refine z_iconstN (pc := 229) C 2 dX7_init_229 ?_
  refine z_iconst (v := -1) (pc := 230) C dX7_init_230 (by decide) ?_
  refine z_iast (pc := 231) C dX7_init_231 (A.2.1 17 (by decide)).1 (A.2.1 17 (by decide)).2.1 (by decide) (by decide) ?_
  have Bm := Am_up (k := 17) (x := 2) (v := (-1)) Bm (by decide)
  generalize up2 im51 (M + 17) 2 (-1) = im52 at Bm ⊢
  refine z_dup (pc := 232) C dX7_init_232 rfl ?_
  refine z_iconstN (pc := 233) C 3 dX7_init_233 ?_
  refine z_iconst (v := -1) (pc := 234) C dX7_init_234 (by decide) ?_
  refine z_iast (pc := 235) C dX7_init_235 (A.2.1 17 (by decide)).1 (A.2.1 17 (by decide)).2.1 (by decide) (by decide) ?_
  have Bm := Am_up (k := 17) (x := 3) (v := (-1)) Bm (by decide)
  generalize up2 im52 (M + 17) 3 (-1) = im53 at Bm ⊢
  refine pX7_64 (pc := 236) C dX7_init_236 (A.2.1 0 (by decide)).1 ?_
  have A := Al_put (k := 0) (f := 28) (a := M + 17) A (by decide)
  change Al _ _ _ _ _ _ (rS S49 M (va_up (S49.2.2.2 M) 28 (some (M + 17)))) at A
  generalize rS S49 M (va_up (S49.2.2.2 M) 28 (some (M + 17))) = S54 at A ⊢
  refine z_aload_n (pc := 239) C dX7_init_239 rfl ?_
  refine z_iconstN (pc := 240) C 4 dX7_init_240 ?_
  refine z_newi (pc := 241) C dX7_init_241 (by decide) (by omega) (by omega) ?_
  rw [A.1]
  have Bm := Am_new Bm A.1 rfl
  have A := Al_new (c := 8) (n := 4) A rfl rfl rfl
  generalize nS S54 8 4 = S55 at A ⊢
  generalize nM S54 im53 = im55 at Bm ⊢
  refine pX7_67 (pc := 243) C dX7_init_243 (A.2.1 0 (by decide)).1 ?_
  have A := Al_put (k := 0) (f := 29) (a := M + 18) A (by decide)
  change Al _ _ _ _ _ _ (rS S55 M (va_up (S55.2.2.2 M) 29 (some (M + 18)))) at A
  generalize rS S55 M (va_up (S55.2.2.2 M) 29 (some (M + 18))) = S56 at A ⊢
  refine z_aload_n (pc := 246) C dX7_init_246 rfl ?_
  refine z_bipushN (pc := 247) C 96 (by decide) dX7_init_247 ?_
  refine z_newi (pc := 249) C dX7_init_249 (by decide) (by omega) (by omega) ?_
  rw [A.1]
  have Bm := Am_new Bm A.1 rfl
  have A := Al_new (c := 8) (n := 96) A rfl rfl rfl
  generalize nS S56 8 96 = S57 at A ⊢
  generalize nM S56 im55 = im57 at Bm ⊢
  refine pX7_70 (pc := 251) C dX7_init_251 (A.2.1 0 (by decide)).1 ?_
  have A := Al_put (k := 0) (f := 30) (a := M + 19) A (by decide)
  change Al _ _ _ _ _ _ (rS S57 M (va_up (S57.2.2.2 M) 30 (some (M + 19)))) at A
  generalize rS S57 M (va_up (S57.2.2.2 M) 30 (some (M + 19))) = S58 at A ⊢
  refine z_aload_n (pc := 254) C dX7_init_254 rfl ?_
  refine z_iconstN (pc := 255) C 5 dX7_init_255 ?_
  refine z_newi (pc := 256) C dX7_init_256 (by decide) (by omega) (by omega) ?_
  rw [A.1]
  have Bm := Am_new Bm A.1 rfl
  have A := Al_new (c := 8) (n := 5) A rfl rfl rfl
  generalize nS S58 8 5 = S59 at A ⊢
  generalize nM S58 im57 = im59 at Bm ⊢
  refine pX7_73 (pc := 258) C dX7_init_258 (A.2.1 0 (by decide)).1 ?_
  have A := Al_put (k := 0) (f := 31) (a := M + 20) A (by decide)
  change Al _ _ _ _ _ _ (rS S59 M (va_up (S59.2.2.2 M) 31 (some (M + 20)))) at A
  generalize rS S59 M (va_up (S59.2.2.2 M) 31 (some (M + 20))) = S60 at A ⊢
  refine z_aload_n (pc := 261) C dX7_init_261 rfl ?_
  refine z_iconstN (pc := 262) C 5 dX7_init_262 ?_
  refine z_newi (pc := 263) C dX7_init_263 (by decide) (by omega) (by omega) ?_
  rw [A.1]
  have Bm := Am_new Bm A.1 rfl
  have A := Al_new (c := 8) (n := 5) A rfl rfl rfl
  generalize nS S60 8 5 = S61 at A ⊢
  generalize nM S60 im59 = im61 at Bm ⊢
  refine pX7_76 (pc := 265) C dX7_init_265 (A.2.1 0 (by decide)).1 ?_
  have A := Al_put (k := 0) (f := 32) (a := M + 21) A (by decide)
  change Al _ _ _ _ _ _ (rS S61 M (va_up (S61.2.2.2 M) 32 (some (M + 21)))) at A
  generalize rS S61 M (va_up (S61.2.2.2 M) 32 (some (M + 21))) = S62 at A ⊢
  refine z_aload_n (pc := 268) C dX7_init_268 rfl ?_
  refine z_iconstN (pc := 269) C 5 dX7_init_269 ?_
  refine z_newi (pc := 270) C dX7_init_270 (by decide) (by omega) (by omega) ?_
  rw [A.1]
  have Bm := Am_new Bm A.1 rfl
  have A := Al_new (c := 8) (n := 5) A rfl rfl rfl
  generalize nS S62 8 5 = S63 at A ⊢
  generalize nM S62 im61 = im63 at Bm ⊢
  refine pX7_79 (pc := 272) C dX7_init_272 (A.2.1 0 (by decide)).1 ?_
  have A := Al_put (k := 0) (f := 33) (a := M + 22) A (by decide)
  change Al _ _ _ _ _ _ (rS S63 M (va_up (S63.2.2.2 M) 33 (some (M + 22)))) at A
  generalize rS S63 M (va_up (S63.2.2.2 M) 33 (some (M + 22))) = S64 at A ⊢
  refine z_aload_n (pc := 275) C dX7_init_275 rfl ?_
  refine z_bipushN (pc := 276) C 120 (by decide) dX7_init_276 ?_
  refine z_newi (pc := 278) C dX7_init_278 (by decide) (by omega) (by omega) ?_
  rw [A.1]
  have Bm := Am_new Bm A.1 rfl
  have A := Al_new (c := 8) (n := 120) A rfl rfl rfl
  generalize nS S64 8 120 = S65 at A ⊢
  generalize nM S64 im63 = im65 at Bm ⊢
  refine pX7_82 (pc := 280) C dX7_init_280 (A.2.1 0 (by decide)).1 ?_
  have A := Al_put (k := 0) (f := 34) (a := M + 23) A (by decide)
  change Al _ _ _ _ _ _ (rS S65 M (va_up (S65.2.2.2 M) 34 (some (M + 23)))) at A
  generalize rS S65 M (va_up (S65.2.2.2 M) 34 (some (M + 23))) = S66 at A ⊢
  refine z_aload_n (pc := 283) C dX7_init_283 rfl ?_
  refine z_bipushN (pc := 284) C 24 (by decide) dX7_init_284 ?_
  refine z_newi (pc := 286) C dX7_init_286 (by decide) (by omega) (by omega) ?_
  rw [A.1]
  have Bm := Am_new Bm A.1 rfl
  have A := Al_new (c := 8) (n := 24) A rfl rfl rfl
  generalize nS S66 8 24 = S67 at A ⊢
  generalize nM S66 im65 = im67 at Bm ⊢
  refine pX7_85 (pc := 288) C dX7_init_288 (A.2.1 0 (by decide)).1 ?_
  have A := Al_put (k := 0) (f := 35) (a := M + 24) A (by decide)
  change Al _ _ _ _ _ _ (rS S67 M (va_up (S67.2.2.2 M) 35 (some (M + 24)))) at A
  generalize rS S67 M (va_up (S67.2.2.2 M) 35 (some (M + 24))) = S68 at A ⊢
  refine z_aload_n (pc := 291) C dX7_init_291 rfl ?_
  refine z_bipushN (pc := 292) C 60 (by decide) dX7_init_292 ?_
  refine z_newi (pc := 294) C dX7_init_294 (by decide) (by omega) (by omega) ?_
  rw [A.1]
  have Bm := Am_new Bm A.1 rfl
  have A := Al_new (c := 8) (n := 60) A rfl rfl rfl
  generalize nS S68 8 60 = S69 at A ⊢
  generalize nM S68 im67 = im69 at Bm ⊢
  refine pX7_88 (pc := 296) C dX7_init_296 (A.2.1 0 (by decide)).1 ?_
  have A := Al_put (k := 0) (f := 36) (a := M + 25) A (by decide)
  change Al _ _ _ _ _ _ (rS S69 M (va_up (S69.2.2.2 M) 36 (some (M + 25)))) at A
  generalize rS S69 M (va_up (S69.2.2.2 M) 36 (some (M + 25))) = S70 at A ⊢
  refine z_aload_n (pc := 299) C dX7_init_299 rfl ?_
  refine gX7_9 (pc := 300) C dX7_init_300 (A.2.1 0 (by decide)).1 (a := M + 1) ((congrFun (A.2.1 0 (by decide)).2.2 0).trans rfl) ?_
  refine z_iconstN (pc := 303) C 0 dX7_init_303 ?_
  refine z_iconstN (pc := 304) C 1 dX7_init_304 ?_
  refine z_iast (pc := 305) C dX7_init_305 (A.2.1 1 (by decide)).1 (A.2.1 1 (by decide)).2.1 (by decide) (by decide) ?_
  have Bm := Am_up (k := 1) (x := 0) (v := (nI 1)) Bm (by decide)
  generalize up2 im69 (M + 1) 0 (nI 1) = im71 at Bm ⊢
  refine z_aload_n (pc := 306) C dX7_init_306 rfl ?_
  refine gX7_9 (pc := 307) C dX7_init_307 (A.2.1 0 (by decide)).1 (a := M + 1) ((congrFun (A.2.1 0 (by decide)).2.2 0).trans rfl) ?_
  refine z_iconstN (pc := 310) C 5 dX7_init_310 ?_
  refine z_sipush (v := nI 600) (pc := 311) C dX7_init_311 (by decide +kernel) ?_
  refine z_iast (pc := 314) C dX7_init_314 (A.2.1 1 (by decide)).1 (A.2.1 1 (by decide)).2.1 (by decide) (by decide) ?_
  have Bm := Am_up (k := 1) (x := 5) (v := (nI 600)) Bm (by decide)
  generalize up2 im71 (M + 1) 5 (nI 600) = im72 at Bm ⊢
  refine z_widen (c1 := 25) (s1 := 5204) (by omega) (by omega) ?_
  refine z_vret (pc := 315) C ρ dX7_init_315 ⟨rfl, A.1, ⟨fun j hj => ⟨(A.2.1 j hj).1, (A.2.1 j hj).2.1⟩, fun k hk h0 => ?_⟩, A.2.2, Bm.2, (by have h := congrFun (Bm.1 0 (by decide)) 3; exact h), (by have h := congrFun (Bm.1 0 (by decide)) 4; exact h), (by have h := congrFun (Bm.1 0 (by decide)) 11; exact h), (by have h := congrFun (Bm.1 0 (by decide)) 37; exact h), ?_, ⟨fun w hw => ?_, fun j hj => ?_⟩, fun s hs => ?_, Bm.1 18 (by decide), Bm.1 19 (by decide), Bm.1 20 (by decide), Bm.1 9 (by decide), Bm.1 25 (by decide)⟩
  · refine (congrFun (A.2.1 0 (by decide)).2.2 k).trans ?_
    rcases (show k = 0 ∨ k = 1 ∨ k = 2 ∨ k = 3 ∨ k = 4 ∨ k = 5 ∨ k = 6 ∨ k = 7 ∨ k = 8 ∨ k = 9 ∨ k = 10 ∨ k = 11 ∨ k = 12 ∨ k = 13 ∨ k = 14 ∨ k = 15 ∨ k = 16 ∨ k = 17 ∨ k = 18 ∨ k = 19 ∨ k = 20 ∨ k = 21 ∨ k = 22 ∨ k = 23 ∨ k = 24 ∨ k = 25 ∨ k = 26 ∨ k = 27 ∨ k = 28 ∨ k = 29 ∨ k = 30 ∨ k = 31 ∨ k = 32 ∨ k = 33 ∨ k = 34 ∨ k = 35 ∨ k = 36 ∨ k = 37 by omega) with rfl | rfl | rfl | rfl | rfl | rfl | rfl | rfl | rfl | rfl | rfl | rfl | rfl | rfl | rfl | rfl | rfl | rfl | rfl | rfl | rfl | rfl | rfl | rfl | rfl | rfl | rfl | rfl | rfl | rfl | rfl | rfl | rfl | rfl | rfl | rfl | rfl | rfl <;> first | rfl | exact absurd rfl h0
  · exact (Bm.1 1 (by decide)).trans rfl
  · refine (congrFun (Bm.1 11 (by decide)) w).trans ?_
    rcases (show w = 0 ∨ w = 1 ∨ w = 2 ∨ w = 3 by omega) with rfl | rfl | rfl | rfl <;> rfl
  · refine (congrFun (Bm.1 10 (by decide)) j).trans ?_
    rcases (show j = 0 ∨ j = 1 ∨ j = 2 ∨ j = 3 ∨ j = 4 ∨ j = 5 ∨ j = 6 ∨ j = 7 ∨ j = 8 ∨ j = 9 ∨ j = 10 by omega) with rfl | rfl | rfl | rfl | rfl | rfl | rfl | rfl | rfl | rfl | rfl <;> rfl
  · refine (congrFun (Bm.1 17 (by decide)) s).trans ?_
    rcases (show s = 0 ∨ s = 1 ∨ s = 2 ∨ s = 3 by omega) with rfl | rfl | rfl | rfl <;> rfl
