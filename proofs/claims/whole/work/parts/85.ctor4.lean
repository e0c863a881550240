/-! the class: LampOrder's constructor -/
def thr : List Nat := [16, 31, 46, 49, 50, 51, 52, 53]
def fld : List Nat := [0, 1, 2, 4, 5, 6, 7, 9]
def ofs : List Nat := [1, 16, 31, 46, 49, 50, 51, 52]
/-- what stands once the cells up to B + j are made -/
def DP (S : Sx) (im : Mem) (B j : Nat) : Prop := (∀ k, k < 8 → thr.getD k 0 ≤ j → S.2.2.2 B (fld.getD k 0) = some (B + ofs.getD k 0)) ∧ (16 ≤ j → SL S (B + 1) ∧ SI im (B + 1)) ∧ (31 ≤ j → SL S (B + 16)) ∧ (46 ≤ j → SL S (B + 31)) ∧ (49 ≤ j → RLay S (B + 46) ∧ im (B + 46) 1 = 0 ∧ im (B + 47) = fun _ => 0) ∧ (50 ≤ j → S.2.1 (B + 49) = 12 ∧ S.2.2.1 (B + 49) = 4) ∧ (51 ≤ j → S.2.1 (B + 50) = 13 ∧ S.2.2.1 (B + 50) = 5) ∧ (52 ≤ j → S.2.1 (B + 51) = 8 ∧ S.2.2.1 (B + 51) = 60 ∧ im (B + 51) = fun _ => 0) ∧ (53 ≤ j → S.2.1 (B + 52) = 8 ∧ S.2.2.1 (B + 52) = 10) ∧ (∀ i, i < 4 → 55 + 2 * i ≤ j → TL S (B + 53 + 2 * i) ∧ im (B + 53 + 2 * i) 0 = -1 ∧ im (B + 53 + 2 * i) 1 = 0 ∧ im (B + 53 + 2 * i + 1) = fun _ => 0) ∧ ∀ i, i < 5 → 65 + 4 * i ≤ j → S.2.1 (B + 61 + 4 * i) = 2 ∧ S.2.2.2 (B + 61 + 4 * i) 1 = some (B + 61 + 4 * i + 1) ∧ S.2.2.2 (B + 61 + 4 * i) 2 = some (B + 61 + 4 * i + 2) ∧ S.2.1 (B + 61 + 4 * i + 1) = 0 ∧ TL S (B + 61 + 4 * i + 2) ∧ im (B + 61 + 4 * i) 0 = 0
theorem DP_mono {S S' : Sx} {im im' : Mem} {B j : Nat} (fx : Nat) (h : DP S im B j) (hx : ∀ k, k < 8 → thr.getD k 0 ≤ j → fld.getD k 0 ≠ fx) (eB : ∀ g, g ≠ fx → S'.2.2.2 B g = S.2.2.2 B g) (eS : ∀ a, B + 1 ≤ a → a < B + j → S'.2.1 a = S.2.1 a ∧ S'.2.2.1 a = S.2.2.1 a ∧ (a ≠ B + 49 → a ≠ B + 50 → S'.2.2.2 a = S.2.2.2 a)) (ei : ∀ a, B + 1 ≤ a → a < B + j → im' a = im a) : DP S' im' B j := by
  obtain ⟨h0, h1, h2, h3, h4, h5, h6, h7, h8, h9, h10⟩ := h
  have e : ∀ a, B + 1 ≤ a → a < B + j → a ≠ B + 49 → a ≠ B + 50 → sE S S' a := fun a q1 q2 q3 q4 => ⟨(eS a q1 q2).1, (eS a q1 q2).2.1, (eS a q1 q2).2.2 q3 q4⟩
  refine ⟨fun k hk hj => by rw [eB _ (hx k hk hj)]; exact h0 k hk hj, fun hj => ⟨SL_e (h1 hj).1 (fun a q1 q2 => e a (by omega) (by omega) (by omega) (by omega)), ?_⟩, fun hj => SL_e (h2 hj) (fun a q1 q2 => e a (by omega) (by omega) (by omega) (by omega)), fun hj => SL_e (h3 hj) (fun a q1 q2 => e a (by omega) (by omega) (by omega) (by omega)), fun hj => ⟨RLay_e (h4 hj).1 (fun a q1 q2 => e a (by omega) (by omega) (by omega) (by omega)), by rw [ei _ (by omega) (by omega)]; exact (h4 hj).2.1, by rw [ei _ (by omega) (by omega)]; exact (h4 hj).2.2⟩, fun hj => ⟨(eS _ (by omega) (by omega)).1.trans (h5 hj).1, (eS _ (by omega) (by omega)).2.1.trans (h5 hj).2⟩, fun hj => ⟨(eS _ (by omega) (by omega)).1.trans (h6 hj).1, (eS _ (by omega) (by omega)).2.1.trans (h6 hj).2⟩, fun hj => ⟨(eS _ (by omega) (by omega)).1.trans (h7 hj).1, (eS _ (by omega) (by omega)).2.1.trans (h7 hj).2.1, by rw [ei _ (by omega) (by omega)]; exact (h7 hj).2.2⟩, fun hj => ⟨(eS _ (by omega) (by omega)).1.trans (h8 hj).1, (eS _ (by omega) (by omega)).2.1.trans (h8 hj).2⟩, fun i hi hj => ⟨TL_e (h9 i hi hj).1 (fun a q1 q2 => e a (by omega) (by omega) (by omega) (by omega)), by rw [ei _ (by omega) (by omega)]; exact (h9 i hi hj).2.1, by rw [ei _ (by omega) (by omega)]; exact (h9 i hi hj).2.2.1, by rw [ei _ (by omega) (by omega)]; exact (h9 i hi hj).2.2.2⟩, fun i hi hj => ?_⟩
  · unfold SI
    rw [ei (B + 1) (by omega) (by omega), ei (B + 1 + 4) (by omega) (by omega)]
    exact (h1 hj).2
  · obtain ⟨a1, a2, a3, a4, a5, a6⟩ := h10 i hi hj
    have s0 := e (B + 61 + 4 * i) (by omega) (by omega) (by omega) (by omega)
    exact ⟨s0.1.trans a1, (congrFun s0.2.2 1).trans a2, (congrFun s0.2.2 2).trans a3, (e _ (by omega) (by omega) (by omega) (by omega)).1.trans a4, TL_e a5 (fun a q1 q2 => e a (by omega) (by omega) (by omega) (by omega)), by rw [ei _ (by omega) (by omega)]; exact a6⟩
set_option maxRecDepth 100000 in
set_option maxHeartbeats 4000000 in
theorem c6_init (l : Launch) (E : Ex) (S : Sx) (im : Mem) (B : Nat) (N : S.1 = B + 1) (K : S.2.1 B = 6) : Mt l E yX6_init cX6_init 2 none 4 80 935 [.ref B] S im (pV (fun S' im' => S'.1 = B + 81 ∧ CL S' B ∧ (∀ a, a < B → sE S S' a) ∧ (∀ a, a < B → im' a = im a) ∧ im' B = im B ∧ SI im' (B + 1) ∧ im' (B + 46) 1 = 0 ∧ im' (B + 47) = (fun _ => 0) ∧ im' (B + 51) = (fun _ => 0) ∧ (∀ i, i < 4 → im' (B + 53 + 2 * i) 0 = -1 ∧ im' (B + 53 + 2 * i) 1 = 0 ∧ im' (B + 53 + 2 * i + 1) = fun _ => 0) ∧ ∀ i, i < 5 → im' (B + 61 + 4 * i) 0 = 0)) := by
  refine Mt.of (by decide +kernel) rfl rfl (Nat.le_of_ble_eq_true rfl) ?_
  intro κ hκ C ρ
  subst hκ
  show V E κ 2 0 0 0 [some (.ref B), none] [] S im
  have loop2 : ∀ (r i : Nat) (S' : Sx) (im' : Mem), i + r = 5 → S'.1 = B + (61 + 4 * i) → S'.2.1 B = 6 → DP S' im' B (61 + 4 * i) → ((∀ a, a < B → sE S S' a) ∧ (∀ a, a < B → im' a = im a) ∧ im' B = im B) → (∀ t, t < i → S'.2.2.2 (B + 50) t = some (B + 61 + 4 * t)) → (∀ t, t < 4 → S'.2.2.2 (B + 49) t = some (B + 53 + 2 * t)) → V E κ 2 (60 + 4 * i) (745 + 38 * i) 108 [some (.ref B), some (.int (nI i))] [] S' im' := by
    intro r
    induction r with
    | zero =>
      intro i S' im' hi N K D F RA RA4
      refine z_iload_n (pc := 108) C dX6_init_108 rfl ?_
      refine z_iconstN (pc := 109) C 5 dX6_init_109 ?_
      refine z_icmp_geT (pc := 110) C 132 dX6_init_110 (by decide) (nI_le (by omega) (by omega)) ?_
      refine z_widen (c1 := 80) (s1 := 935) (by omega) (by omega) ?_
      have e5 : i = 5 := by omega
      rw [e5] at N D RA
      obtain ⟨h0, h1, h2, h3, h4, h5, h6, h7, h8, h9, h10⟩ := D
      exact z_vret (pc := 132) C ρ dX6_init_132 ⟨rfl, N, ⟨⟨K, h0 0 (by decide) (by decide), h0 1 (by decide) (by decide), h0 2 (by decide) (by decide), h0 3 (by decide) (by decide), h0 4 (by decide) (by decide), h0 5 (by decide) (by decide), h0 6 (by decide) (by decide), h0 7 (by decide) (by decide)⟩, ⟨(h1 (by decide)).1, h2 (by decide), h3 (by decide)⟩, (h4 (by decide)).1, ⟨h5 (by decide), h6 (by decide), ⟨(h7 (by decide)).1, (h7 (by decide)).2.1⟩, h8 (by decide)⟩, fun t ht => ⟨RA4 t ht, (h9 t ht (by omega)).1⟩, fun t ht => ⟨RA t ht, (h10 t ht (by omega)).1, (h10 t ht (by omega)).2.1, (h10 t ht (by omega)).2.2.1, (h10 t ht (by omega)).2.2.2.1, (h10 t ht (by omega)).2.2.2.2.1⟩⟩, F.1, F.2.1, F.2.2, (h1 (by decide)).2, (h4 (by decide)).2.1, (h4 (by decide)).2.2, (h7 (by decide)).2.2, fun t ht => (h9 t ht (by omega)).2, fun t ht => (h10 t ht (by omega)).2.2.2.2.2⟩
    | succ r ih =>
      intro i S' im' hi N K D F RA RA4
      refine z_iload_n (pc := 108) C dX6_init_108 rfl ?_
      refine z_iconstN (pc := 109) C 5 dX6_init_109 ?_
      refine z_icmp_geF (pc := 110) C 132 dX6_init_110 (by decide) (nI_ge (by omega) (by omega)) ?_
      refine z_aload_n (pc := 113) C dX6_init_113 rfl ?_
      refine gX6_37 (pc := 114) C dX6_init_114 K (a := B + 50) (D.1 5 (by decide) (show 51 ≤ 61 + 4 * i by omega)) ?_
      refine z_iload_n (pc := 117) C dX6_init_117 rfl ?_
      refine nX6_35 (pc := 118) C dX6_init_118 (by omega) (by omega) ?_
      obtain ⟨T1, jm1, eS1, eI1, n1, k1, l1, r1, a1, z1, b1⟩ := nS_all (c := 2) (n := 0) (im := im') N
      rw [← eS1, ← eI1, N]
      refine z_dup (pc := 121) C dX6_init_121 rfl ?_
      refine kX6_49 (pc := 122) C dX6_init_122 (c2_init κ.2.1 E T1 jm1 (B + (61 + 4 * i)) n1 k1) (by decide) (Nat.le_of_ble_eq_true rfl) (by omega) (by omega) (fun U1 im1 h_1 => ?_)
      obtain ⟨m1, m2, m3, m4, m5, m6, m7, m8, m9⟩ := h_1
      have D2 := D.2.2.2.2.2.2.1 (by omega)
      refine z_aast (pc := 125) C dX6_init_125 ((m2 _ (by omega)).1.trans ((a1 _ (by omega)).1.trans D2.1)) (by decide) ((m2 _ (by omega)).2.1.trans ((a1 _ (by omega)).2.1.trans D2.2)) (show i < 5 by omega) (by decide) (by rw [m3]; rfl) ?_
      obtain ⟨S1, eT1, nn, cc, dd, eR, ff, gg⟩ := rS_all (S := U1) (q := B + 50) (f := i) (a := B + (61 + 4 * i))
      rw [← eT1]
      have hE : ∀ a, a ≠ B + 50 → a < B + (61 + 4 * i) → sE S' S1 a := fun a q1 q2 => (a1 a (by omega)).tr ((m2 a (by omega)).tr ⟨congrFun cc a, congrFun dd a, gg a q1⟩)
      have hI : ∀ a, a < B + (61 + 4 * i) → im1 a = im' a := fun a q => by rw [m8 a (by omega), b1 a (by omega)]
      have DD : DP S1 im1 B (61 + 4 * i) := DP_mono 8 D (fun t ht h => by rcases (show t = 0 ∨ t = 1 ∨ t = 2 ∨ t = 3 ∨ t = 4 ∨ t = 5 ∨ t = 6 ∨ t = 7 by omega) with rfl | rfl | rfl | rfl | rfl | rfl | rfl | rfl <;> decide) (fun g q => congrFun (hE B (by omega) (by omega)).2.2 g) (fun a q1 q2 => by by_cases q3 : a = B + 50; (rw [q3]; exact ⟨(congrFun cc _).trans ((m2 _ (by omega)).1.trans (a1 _ (by omega)).1), (congrFun dd _).trans ((m2 _ (by omega)).2.1.trans (a1 _ (by omega)).2.1), fun _ h => absurd rfl h⟩); exact ⟨(hE a q3 q2).1, (hE a q3 q2).2.1, fun _ _ => (hE a q3 q2).2.2⟩) (fun a q1 q2 => hI a q2)
      refine z_iincN (pc := 126) C 1 dX6_init_126 rfl (by decide) rfl ?_
      refine z_goto (pc := 129) C 108 dX6_init_129 (by decide) ?_
      refine z_widen (c1 := 60 + 4 * (i + 1)) (s1 := 745 + 38 * (i + 1)) (by omega) (by omega) ?_
      refine ih (i + 1) S1 im1 (by omega) (nn.trans (m1.trans (by omega))) ((hE B (by omega) (by omega)).1.trans K) ?_ ⟨fun a q => (F.1 a q).tr (hE a (by omega) (by omega)), fun a q => (hI a (by omega)).trans (F.2.1 a q), (hI B (by omega)).trans F.2.2⟩ (fun t ht => ?_) (fun t ht => by rw [(hE _ (by omega) (by omega)).2.2]; exact RA4 t ht)
      · obtain ⟨h0, h1, h2, h3, h4, h5, h6, h7, h8, h9, h10⟩ := DD
        refine ⟨fun k hk h => h0 k hk (by rcases (show k = 0 ∨ k = 1 ∨ k = 2 ∨ k = 3 ∨ k = 4 ∨ k = 5 ∨ k = 6 ∨ k = 7 by omega) with rfl | rfl | rfl | rfl | rfl | rfl | rfl | rfl <;> exact Nat.le_trans (by decide) (Nat.le_add_right 61 _)), fun _ => h1 (by omega), fun _ => h2 (by omega), fun _ => h3 (by omega), fun _ => h4 (by omega), fun _ => h5 (by omega), fun _ => h6 (by omega), fun _ => h7 (by omega), fun _ => h8 (by omega), fun t ht h => h9 t ht (by omega), fun t ht h => ?_⟩
        by_cases e : t = i
        · rw [e, show B + 61 + 4 * i = B + (61 + 4 * i) by omega]
          exact ⟨(congrFun cc _).trans m3, (congrFun (gg _ (by omega)) 1).trans m4, (congrFun (gg _ (by omega)) 2).trans m5, (congrFun cc _).trans m6, TL_e m7 (fun a q1 q2 => ⟨congrFun cc a, congrFun dd a, gg a (by omega)⟩), (congrFun m9 0).trans (congrFun z1 0)⟩
        · exact h10 t ht (by omega)
      · by_cases e : t = i
        · rw [e, eR, show B + (61 + 4 * i) = B + 61 + 4 * i by omega]
        · rw [ff t e]
          exact (congrFun ((m2 (B + 50) (by omega)).2.2.trans (a1 (B + 50) (by omega)).2.2) t).trans (RA t (by omega))
  have loop1 : ∀ (r i : Nat) (S' : Sx) (im' : Mem), i + r = 4 → S'.1 = B + (53 + 2 * i) → S'.2.1 B = 6 → DP S' im' B (53 + 2 * i) → ((∀ a, a < B → sE S S' a) ∧ (∀ a, a < B → im' a = im a) ∧ im' B = im B) → (∀ t, t < i → S'.2.2.2 (B + 49) t = some (B + 53 + 2 * t)) → V E κ 2 (52 + 2 * i) (637 + 27 * i) 82 [some (.ref B), some (.int (nI i))] [] S' im' := by
    intro r
    induction r with
    | zero =>
      intro i S' im' hi N K D F RA
      refine z_iload_n (pc := 82) C dX6_init_82 rfl ?_
      refine z_iconstN (pc := 83) C 4 dX6_init_83 ?_
      refine z_icmp_geT (pc := 84) C 106 dX6_init_84 (by decide) (nI_le (by omega) (by omega)) ?_
      refine z_iconstN (pc := 106) C 0 dX6_init_106 ?_
      refine z_istore_n (pc := 107) C dX6_init_107 (by decide) rfl ?_
      refine z_widen (c1 := 60 + 4 * 0) (s1 := 745 + 38 * 0) (by omega) (by omega) ?_
      have e4 : i = 4 := by omega
      rw [e4] at N D RA
      exact loop2 5 0 S' im' (by omega) N K D F (fun t h => absurd h (Nat.not_lt_zero _)) RA
    | succ r ih =>
      intro i S' im' hi N K D F RA
      refine z_iload_n (pc := 82) C dX6_init_82 rfl ?_
      refine z_iconstN (pc := 83) C 4 dX6_init_83 ?_
      refine z_icmp_geF (pc := 84) C 106 dX6_init_84 (by decide) (nI_ge (by omega) (by omega)) ?_
      refine z_aload_n (pc := 87) C dX6_init_87 rfl ?_
      refine gX6_31 (pc := 88) C dX6_init_88 K (a := B + 49) (D.1 4 (by decide) (show 50 ≤ 53 + 2 * i by omega)) ?_
      refine z_iload_n (pc := 91) C dX6_init_91 rfl ?_
      refine nX6_29 (pc := 92) C dX6_init_92 (by omega) (by omega) ?_
      obtain ⟨T1, jm1, eS1, eI1, n1, k1, l1, r1, a1, z1, b1⟩ := nS_all (c := 1) (n := 0) (im := im') N
      rw [← eS1, ← eI1, N]
      refine z_dup (pc := 95) C dX6_init_95 rfl ?_
      refine kX6_48 (pc := 96) C dX6_init_96 (c1_init κ.2.1 E T1 jm1 (B + (53 + 2 * i)) n1 k1) (by decide) (Nat.le_of_ble_eq_true rfl) (by omega) (by omega) (fun U1 im1 h_1 => ?_)
      obtain ⟨m1, m2, m3, m8, m9, m10⟩ := h_1
      have D2 := D.2.2.2.2.2.1 (by omega)
      refine z_aast (pc := 99) C dX6_init_99 ((m2 _ (by omega)).1.trans ((a1 _ (by omega)).1.trans D2.1)) (by decide) ((m2 _ (by omega)).2.1.trans ((a1 _ (by omega)).2.1.trans D2.2)) (show i < 4 by omega) (by decide) (by rw [m3.1]; rfl) ?_
      obtain ⟨S1, eT1, nn, cc, dd, eR, ff, gg⟩ := rS_all (S := U1) (q := B + 49) (f := i) (a := B + (53 + 2 * i))
      rw [← eT1]
      have hE : ∀ a, a ≠ B + 49 → a < B + (53 + 2 * i) → sE S' S1 a := fun a q1 q2 => (a1 a (by omega)).tr ((m2 a (by omega)).tr ⟨congrFun cc a, congrFun dd a, gg a q1⟩)
      have hI : ∀ a, a < B + (53 + 2 * i) → im1 a = im' a := fun a q => by rw [m8 a (by omega), b1 a (by omega)]
      have DD : DP S1 im1 B (53 + 2 * i) := DP_mono 8 D (fun t ht h => by rcases (show t = 0 ∨ t = 1 ∨ t = 2 ∨ t = 3 ∨ t = 4 ∨ t = 5 ∨ t = 6 ∨ t = 7 by omega) with rfl | rfl | rfl | rfl | rfl | rfl | rfl | rfl <;> decide) (fun g q => congrFun (hE B (by omega) (by omega)).2.2 g) (fun a q1 q2 => by by_cases q3 : a = B + 49; (rw [q3]; exact ⟨(congrFun cc _).trans ((m2 _ (by omega)).1.trans (a1 _ (by omega)).1), (congrFun dd _).trans ((m2 _ (by omega)).2.1.trans (a1 _ (by omega)).2.1), fun h _ => absurd rfl h⟩); exact ⟨(hE a q3 q2).1, (hE a q3 q2).2.1, fun _ _ => (hE a q3 q2).2.2⟩) (fun a q1 q2 => hI a q2)
      refine z_iincN (pc := 100) C 1 dX6_init_100 rfl (by decide) rfl ?_
      refine z_goto (pc := 103) C 82 dX6_init_103 (by decide) ?_
      refine z_widen (c1 := 52 + 2 * (i + 1)) (s1 := 637 + 27 * (i + 1)) (by omega) (by omega) ?_
      refine ih (i + 1) S1 im1 (by omega) (nn.trans (m1.trans (by omega))) ((hE B (by omega) (by omega)).1.trans K) ?_ ⟨fun a q => (F.1 a q).tr (hE a (by omega) (by omega)), fun a q => (hI a (by omega)).trans (F.2.1 a q), (hI B (by omega)).trans F.2.2⟩ (fun t ht => ?_)
      · obtain ⟨h0, h1, h2, h3, h4, h5, h6, h7, h8, h9, h10⟩ := DD
        refine ⟨fun k hk h => h0 k hk (by rcases (show k = 0 ∨ k = 1 ∨ k = 2 ∨ k = 3 ∨ k = 4 ∨ k = 5 ∨ k = 6 ∨ k = 7 by omega) with rfl | rfl | rfl | rfl | rfl | rfl | rfl | rfl <;> exact Nat.le_trans (by decide) (Nat.le_add_right 53 _)), fun _ => h1 (by omega), fun _ => h2 (by omega), fun _ => h3 (by omega), fun _ => h4 (by omega), fun _ => h5 (by omega), fun _ => h6 (by omega), fun _ => h7 (by omega), fun _ => h8 (by omega), fun t ht h => ?_, fun t ht h => absurd h (by omega)⟩
        by_cases e : t = i
        · rw [e, show B + 53 + 2 * i = B + (53 + 2 * i) by omega]
          exact ⟨TL_e m3 (fun a q1 q2 => ⟨congrFun cc a, congrFun dd a, gg a (by omega)⟩), by rw [m9, upd_s], by rw [m9, upd_n _ _ (by decide)]; exact congrFun z1 1, m10⟩
        · exact h9 t ht (by omega)
      · by_cases e : t = i
        · rw [e, eR, show B + (53 + 2 * i) = B + 53 + 2 * i by omega]
        · rw [ff t e]
          exact (congrFun ((m2 (B + 49) (by omega)).2.2.trans (a1 (B + 49) (by omega)).2.2) t).trans (RA t (by omega))
  have st9 : ∀ (S' : Sx) (im' : Mem), S'.1 = B + 53 → S'.2.1 B = 6 → DP S' im' B 53 → ((∀ a, a < B → sE S S' a) ∧ (∀ a, a < B → im' a = im a) ∧ im' B = im B) → V E κ 2 52 637 80 [some (.ref B), none] [] S' im' := by
    intro S' im' N K D F
    refine z_iconstN (pc := 80) C 0 dX6_init_80 ?_
    refine z_istore_n (pc := 81) C dX6_init_81 (by decide) rfl ?_
    refine z_widen (c1 := 52 + 2 * 0) (s1 := 637 + 27 * 0) (by omega) (by omega) ?_
    exact loop1 4 0 S' im' (by omega) N K D F (fun t h => absurd h (Nat.not_lt_zero _))
  have st8 : ∀ (S' : Sx) (im' : Mem), S'.1 = B + 52 → S'.2.1 B = 6 → DP S' im' B 52 → ((∀ a, a < B → sE S S' a) ∧ (∀ a, a < B → im' a = im a) ∧ im' B = im B) → V E κ 2 51 627 72 [some (.ref B), none] [] S' im' := by
    intro S' im' N K D F
    refine z_aload_n (pc := 72) C dX6_init_72 rfl ?_
    refine z_bipushN (pc := 73) C 10 (by decide) dX6_init_73 ?_
    refine z_newi (pc := 75) C dX6_init_75 (by decide) (by omega) (by omega) ?_
    obtain ⟨T8, im8, eS8, eI8, n8, k8, l8, r8, a8, z8, b8⟩ := nS_all (c := 8) (n := 10) (im := im') N
    rw [← eS8, ← eI8, N]
    refine pX6_45 (pc := 77) C dX6_init_77 ((a8 B (by omega)).1.trans K) ?_
    obtain ⟨S8, eT8, nn, cc, dd, eR, ff, gg⟩ := rS_all (S := T8) (q := B) (f := 9) (a := B + 52)
    rw [← eT8]
    have K : S8.2.1 B = 6 := (congrFun cc B).trans ((a8 B (by omega)).1.trans K)
    have N : S8.1 = B + 53 := nn.trans n8
    have hEE : ∀ a, a ≠ B → a < B + 52 → sE S' S8 a := fun a q1 q2 => (a8 a (by omega)).tr ⟨congrFun cc a, congrFun dd a, gg a q1⟩
    have I : ∀ a, a < B + 52 → im8 a = im' a := fun a q => b8 a (by omega)
    have F : (∀ a, a < B → sE S S8 a) ∧ (∀ a, a < B → im8 a = im a) ∧ im8 B = im B := ⟨fun a q => (F.1 a q).tr (hEE a (by omega) (by omega)), fun a q => (I a (by omega)).trans (F.2.1 a q), (I B (by omega)).trans F.2.2⟩
    have D : DP S8 im8 B 52 := DP_mono 9 D (fun t ht h => by rcases (show t = 0 ∨ t = 1 ∨ t = 2 ∨ t = 3 ∨ t = 4 ∨ t = 5 ∨ t = 6 ∨ t = 7 by omega) with rfl | rfl | rfl | rfl | rfl | rfl | rfl | rfl <;> first | exact absurd h (by decide) | decide) (fun g q => (ff g q).trans (congrFun (a8 B (by omega)).2.2 g)) (fun a q1 q2 => ⟨(hEE a (by omega) q2).1, (hEE a (by omega) q2).2.1, fun _ _ => (hEE a (by omega) q2).2.2⟩) (fun a q1 q2 => I a q2)
    have D : DP S8 im8 B 53 := ⟨fun t ht h => by
          rcases (show t = 0 ∨ t = 1 ∨ t = 2 ∨ t = 3 ∨ t = 4 ∨ t = 5 ∨ t = 6 ∨ t = 7 by omega) with rfl | rfl | rfl | rfl | rfl | rfl | rfl | rfl
          · exact D.1 0 (by decide) (by decide)
          · exact D.1 1 (by decide) (by decide)
          · exact D.1 2 (by decide) (by decide)
          · exact D.1 3 (by decide) (by decide)
          · exact D.1 4 (by decide) (by decide)
          · exact D.1 5 (by decide) (by decide)
          · exact D.1 6 (by decide) (by decide)
          · exact eR, fun _ => D.2.1 (by decide), fun _ => D.2.2.1 (by decide), fun _ => D.2.2.2.1 (by decide), fun _ => D.2.2.2.2.1 (by decide), fun _ => D.2.2.2.2.2.1 (by decide), fun _ => D.2.2.2.2.2.2.1 (by decide), fun _ => D.2.2.2.2.2.2.2.1 (by decide), fun _ => ⟨(congrFun cc _).trans k8, (congrFun dd _).trans l8⟩, fun i hi h => absurd h (by omega), fun i hi h => absurd h (by omega)⟩
    refine z_widen (c1 := 52) (s1 := 637) (by omega) (by omega) ?_
    exact st9 S8 im8 N K D F
  have st7 : ∀ (S' : Sx) (im' : Mem), S'.1 = B + 51 → S'.2.1 B = 6 → DP S' im' B 51 → ((∀ a, a < B → sE S S' a) ∧ (∀ a, a < B → im' a = im a) ∧ im' B = im B) → V E κ 2 50 567 64 [some (.ref B), none] [] S' im' := by
    intro S' im' N K D F
    refine z_aload_n (pc := 64) C dX6_init_64 rfl ?_
    refine z_bipushN (pc := 65) C 60 (by decide) dX6_init_65 ?_
    refine z_newi (pc := 67) C dX6_init_67 (by decide) (by omega) (by omega) ?_
    obtain ⟨T7, im7, eS7, eI7, n7, k7, l7, r7, a7, z7, b7⟩ := nS_all (c := 8) (n := 60) (im := im') N
    rw [← eS7, ← eI7, N]
    refine pX6_41 (pc := 69) C dX6_init_69 ((a7 B (by omega)).1.trans K) ?_
    obtain ⟨S7, eT7, nn, cc, dd, eR, ff, gg⟩ := rS_all (S := T7) (q := B) (f := 7) (a := B + 51)
    rw [← eT7]
    have K : S7.2.1 B = 6 := (congrFun cc B).trans ((a7 B (by omega)).1.trans K)
    have N : S7.1 = B + 52 := nn.trans n7
    have hEE : ∀ a, a ≠ B → a < B + 51 → sE S' S7 a := fun a q1 q2 => (a7 a (by omega)).tr ⟨congrFun cc a, congrFun dd a, gg a q1⟩
    have I : ∀ a, a < B + 51 → im7 a = im' a := fun a q => b7 a (by omega)
    have F : (∀ a, a < B → sE S S7 a) ∧ (∀ a, a < B → im7 a = im a) ∧ im7 B = im B := ⟨fun a q => (F.1 a q).tr (hEE a (by omega) (by omega)), fun a q => (I a (by omega)).trans (F.2.1 a q), (I B (by omega)).trans F.2.2⟩
    have D : DP S7 im7 B 51 := DP_mono 7 D (fun t ht h => by rcases (show t = 0 ∨ t = 1 ∨ t = 2 ∨ t = 3 ∨ t = 4 ∨ t = 5 ∨ t = 6 ∨ t = 7 by omega) with rfl | rfl | rfl | rfl | rfl | rfl | rfl | rfl <;> first | exact absurd h (by decide) | decide) (fun g q => (ff g q).trans (congrFun (a7 B (by omega)).2.2 g)) (fun a q1 q2 => ⟨(hEE a (by omega) q2).1, (hEE a (by omega) q2).2.1, fun _ _ => (hEE a (by omega) q2).2.2⟩) (fun a q1 q2 => I a q2)
    have D : DP S7 im7 B 52 := ⟨fun t ht h => by
          rcases (show t = 0 ∨ t = 1 ∨ t = 2 ∨ t = 3 ∨ t = 4 ∨ t = 5 ∨ t = 6 ∨ t = 7 by omega) with rfl | rfl | rfl | rfl | rfl | rfl | rfl | rfl
          · exact D.1 0 (by decide) (by decide)
          · exact D.1 1 (by decide) (by decide)
          · exact D.1 2 (by decide) (by decide)
          · exact D.1 3 (by decide) (by decide)
          · exact D.1 4 (by decide) (by decide)
          · exact D.1 5 (by decide) (by decide)
          · exact eR
          · exact absurd h (by decide), fun _ => D.2.1 (by decide), fun _ => D.2.2.1 (by decide), fun _ => D.2.2.2.1 (by decide), fun _ => D.2.2.2.2.1 (by decide), fun _ => D.2.2.2.2.2.1 (by decide), fun _ => D.2.2.2.2.2.2.1 (by decide), fun _ => ⟨(congrFun cc _).trans k7, (congrFun dd _).trans l7, z7⟩, fun h => absurd h (by decide), fun i hi h => absurd h (by omega), fun i hi h => absurd h (by omega)⟩
    refine z_widen (c1 := 51) (s1 := 627) (by omega) (by omega) ?_
    exact st8 S7 im7 N K D F
  have st6 : ∀ (S' : Sx) (im' : Mem), S'.1 = B + 50 → S'.2.1 B = 6 → DP S' im' B 50 → ((∀ a, a < B → sE S S' a) ∧ (∀ a, a < B → im' a = im a) ∧ im' B = im B) → V E κ 2 49 562 56 [some (.ref B), none] [] S' im' := by
    intro S' im' N K D F
    refine z_aload_n (pc := 56) C dX6_init_56 rfl ?_
    refine z_iconstN (pc := 57) C 5 dX6_init_57 ?_
    refine aX6_35 (pc := 58) C dX6_init_58 (by decide) (by omega) (by omega) ?_
    obtain ⟨T6, im6, eS6, eI6, n6, k6, l6, r6, a6, z6, b6⟩ := nS_all (c := 13) (n := 5) (im := im') N
    rw [← eS6, ← eI6, N]
    refine pX6_37 (pc := 61) C dX6_init_61 ((a6 B (by omega)).1.trans K) ?_
    obtain ⟨S6, eT6, nn, cc, dd, eR, ff, gg⟩ := rS_all (S := T6) (q := B) (f := 6) (a := B + 50)
    rw [← eT6]
    have K : S6.2.1 B = 6 := (congrFun cc B).trans ((a6 B (by omega)).1.trans K)
    have N : S6.1 = B + 51 := nn.trans n6
    have hEE : ∀ a, a ≠ B → a < B + 50 → sE S' S6 a := fun a q1 q2 => (a6 a (by omega)).tr ⟨congrFun cc a, congrFun dd a, gg a q1⟩
    have I : ∀ a, a < B + 50 → im6 a = im' a := fun a q => b6 a (by omega)
    have F : (∀ a, a < B → sE S S6 a) ∧ (∀ a, a < B → im6 a = im a) ∧ im6 B = im B := ⟨fun a q => (F.1 a q).tr (hEE a (by omega) (by omega)), fun a q => (I a (by omega)).trans (F.2.1 a q), (I B (by omega)).trans F.2.2⟩
    have D : DP S6 im6 B 50 := DP_mono 6 D (fun t ht h => by rcases (show t = 0 ∨ t = 1 ∨ t = 2 ∨ t = 3 ∨ t = 4 ∨ t = 5 ∨ t = 6 ∨ t = 7 by omega) with rfl | rfl | rfl | rfl | rfl | rfl | rfl | rfl <;> first | exact absurd h (by decide) | decide) (fun g q => (ff g q).trans (congrFun (a6 B (by omega)).2.2 g)) (fun a q1 q2 => ⟨(hEE a (by omega) q2).1, (hEE a (by omega) q2).2.1, fun _ _ => (hEE a (by omega) q2).2.2⟩) (fun a q1 q2 => I a q2)
    have D : DP S6 im6 B 51 := ⟨fun t ht h => by
          rcases (show t = 0 ∨ t = 1 ∨ t = 2 ∨ t = 3 ∨ t = 4 ∨ t = 5 ∨ t = 6 ∨ t = 7 by omega) with rfl | rfl | rfl | rfl | rfl | rfl | rfl | rfl
          · exact D.1 0 (by decide) (by decide)
          · exact D.1 1 (by decide) (by decide)
          · exact D.1 2 (by decide) (by decide)
          · exact D.1 3 (by decide) (by decide)
          · exact D.1 4 (by decide) (by decide)
          · exact eR
          · exact absurd h (by decide)
          · exact absurd h (by decide), fun _ => D.2.1 (by decide), fun _ => D.2.2.1 (by decide), fun _ => D.2.2.2.1 (by decide), fun _ => D.2.2.2.2.1 (by decide), fun _ => D.2.2.2.2.2.1 (by decide), fun _ => ⟨(congrFun cc _).trans k6, (congrFun dd _).trans l6⟩, fun h => absurd h (by decide), fun h => absurd h (by decide), fun i hi h => absurd h (by omega), fun i hi h => absurd h (by omega)⟩
    refine z_widen (c1 := 50) (s1 := 567) (by omega) (by omega) ?_
    exact st7 S6 im6 N K D F
  have st5 : ∀ (S' : Sx) (im' : Mem), S'.1 = B + 49 → S'.2.1 B = 6 → DP S' im' B 49 → ((∀ a, a < B → sE S S' a) ∧ (∀ a, a < B → im' a = im a) ∧ im' B = im B) → V E κ 2 48 558 48 [some (.ref B), none] [] S' im' := by
    intro S' im' N K D F
    refine z_aload_n (pc := 48) C dX6_init_48 rfl ?_
    refine z_iconstN (pc := 49) C 4 dX6_init_49 ?_
    refine aX6_29 (pc := 50) C dX6_init_50 (by decide) (by omega) (by omega) ?_
    obtain ⟨T5, im5, eS5, eI5, n5, k5, l5, r5, a5, z5, b5⟩ := nS_all (c := 12) (n := 4) (im := im') N
    rw [← eS5, ← eI5, N]
    refine pX6_31 (pc := 53) C dX6_init_53 ((a5 B (by omega)).1.trans K) ?_
    obtain ⟨S5, eT5, nn, cc, dd, eR, ff, gg⟩ := rS_all (S := T5) (q := B) (f := 5) (a := B + 49)
    rw [← eT5]
    have K : S5.2.1 B = 6 := (congrFun cc B).trans ((a5 B (by omega)).1.trans K)
    have N : S5.1 = B + 50 := nn.trans n5
    have hEE : ∀ a, a ≠ B → a < B + 49 → sE S' S5 a := fun a q1 q2 => (a5 a (by omega)).tr ⟨congrFun cc a, congrFun dd a, gg a q1⟩
    have I : ∀ a, a < B + 49 → im5 a = im' a := fun a q => b5 a (by omega)
    have F : (∀ a, a < B → sE S S5 a) ∧ (∀ a, a < B → im5 a = im a) ∧ im5 B = im B := ⟨fun a q => (F.1 a q).tr (hEE a (by omega) (by omega)), fun a q => (I a (by omega)).trans (F.2.1 a q), (I B (by omega)).trans F.2.2⟩
    have D : DP S5 im5 B 49 := DP_mono 5 D (fun t ht h => by rcases (show t = 0 ∨ t = 1 ∨ t = 2 ∨ t = 3 ∨ t = 4 ∨ t = 5 ∨ t = 6 ∨ t = 7 by omega) with rfl | rfl | rfl | rfl | rfl | rfl | rfl | rfl <;> first | exact absurd h (by decide) | decide) (fun g q => (ff g q).trans (congrFun (a5 B (by omega)).2.2 g)) (fun a q1 q2 => ⟨(hEE a (by omega) q2).1, (hEE a (by omega) q2).2.1, fun _ _ => (hEE a (by omega) q2).2.2⟩) (fun a q1 q2 => I a q2)
    have D : DP S5 im5 B 50 := ⟨fun t ht h => by
          rcases (show t = 0 ∨ t = 1 ∨ t = 2 ∨ t = 3 ∨ t = 4 ∨ t = 5 ∨ t = 6 ∨ t = 7 by omega) with rfl | rfl | rfl | rfl | rfl | rfl | rfl | rfl
          · exact D.1 0 (by decide) (by decide)
          · exact D.1 1 (by decide) (by decide)
          · exact D.1 2 (by decide) (by decide)
          · exact D.1 3 (by decide) (by decide)
          · exact eR
          · exact absurd h (by decide)
          · exact absurd h (by decide)
          · exact absurd h (by decide), fun _ => D.2.1 (by decide), fun _ => D.2.2.1 (by decide), fun _ => D.2.2.2.1 (by decide), fun _ => D.2.2.2.2.1 (by decide), fun _ => ⟨(congrFun cc _).trans k5, (congrFun dd _).trans l5⟩, fun h => absurd h (by decide), fun h => absurd h (by decide), fun h => absurd h (by decide), fun i hi h => absurd h (by omega), fun i hi h => absurd h (by omega)⟩
    refine z_widen (c1 := 49) (s1 := 562) (by omega) (by omega) ?_
    exact st6 S5 im5 N K D F
  have st4 : ∀ (S' : Sx) (im' : Mem), S'.1 = B + 46 → S'.2.1 B = 6 → DP S' im' B 46 → ((∀ a, a < B → sE S S' a) ∧ (∀ a, a < B → im' a = im a) ∧ im' B = im B) → V E κ 2 45 357 37 [some (.ref B), none] [] S' im' := by
    intro S' im' N K D F
    refine z_aload_n (pc := 37) C dX6_init_37 rfl ?_
    refine nX6_22 (pc := 38) C dX6_init_38 (by omega) (by omega) ?_
    obtain ⟨T4, jm4, eS4, eI4, n4, k4, l4, r4, a4, z4, b4⟩ := nS_all (c := 5) (n := 0) (im := im') N
    rw [← eS4, ← eI4, N]
    refine z_dup (pc := 41) C dX6_init_41 rfl ?_
    refine kX6_24 (pc := 42) C dX6_init_42 (c5_init κ.2.1 E T4 jm4 (B + 46) n4 k4) (by decide) (Nat.le_of_ble_eq_true rfl) (by omega) (by omega) (fun U4 im4 h_4 => ?_)
    obtain ⟨m1, m3, m2, m4, m5, m6⟩ := h_4
    refine pX6_25 (pc := 45) C dX6_init_45 ((m3 B (by omega)).1.trans ((a4 B (by omega)).1.trans K)) ?_
    obtain ⟨S4, eT4, nn, cc, dd, eR, ff, gg⟩ := rS_all (S := U4) (q := B) (f := 4) (a := B + 46)
    rw [← eT4]
    have K : S4.2.1 B = 6 := (congrFun cc B).trans ((m3 B (by omega)).1.trans ((a4 B (by omega)).1.trans K))
    have N : S4.1 = B + 49 := nn.trans m1
    have hEE : ∀ a, a ≠ B → a < B + 46 → sE S' S4 a := fun a q1 q2 => (a4 a (by omega)).tr ((m3 a (by omega)).tr ⟨congrFun cc a, congrFun dd a, gg a q1⟩)
    have I : ∀ a, a < B + 46 → im4 a = im' a := fun a q => by rw [m4 a (by omega), b4 a (by omega)]
    have F : (∀ a, a < B → sE S S4 a) ∧ (∀ a, a < B → im4 a = im a) ∧ im4 B = im B := ⟨fun a q => (F.1 a q).tr (hEE a (by omega) (by omega)), fun a q => (I a (by omega)).trans (F.2.1 a q), (I B (by omega)).trans F.2.2⟩
    have D : DP S4 im4 B 46 := DP_mono 4 D (fun t ht h => by rcases (show t = 0 ∨ t = 1 ∨ t = 2 ∨ t = 3 ∨ t = 4 ∨ t = 5 ∨ t = 6 ∨ t = 7 by omega) with rfl | rfl | rfl | rfl | rfl | rfl | rfl | rfl <;> first | exact absurd h (by decide) | decide) (fun g q => (ff g q).trans ((congrFun (m3 B (by omega)).2.2 g).trans (congrFun (a4 B (by omega)).2.2 g))) (fun a q1 q2 => ⟨(hEE a (by omega) q2).1, (hEE a (by omega) q2).2.1, fun _ _ => (hEE a (by omega) q2).2.2⟩) (fun a q1 q2 => I a q2)
    have D : DP S4 im4 B 49 := ⟨fun t ht h => by
          rcases (show t = 0 ∨ t = 1 ∨ t = 2 ∨ t = 3 ∨ t = 4 ∨ t = 5 ∨ t = 6 ∨ t = 7 by omega) with rfl | rfl | rfl | rfl | rfl | rfl | rfl | rfl
          · exact D.1 0 (by decide) (by decide)
          · exact D.1 1 (by decide) (by decide)
          · exact D.1 2 (by decide) (by decide)
          · exact eR
          · exact absurd h (by decide)
          · exact absurd h (by decide)
          · exact absurd h (by decide)
          · exact absurd h (by decide), fun _ => D.2.1 (by decide), fun _ => D.2.2.1 (by decide), fun _ => D.2.2.2.1 (by decide), fun _ => ⟨RLay_e m2 (fun a q1 q2 => ⟨congrFun cc a, congrFun dd a, gg a (by omega)⟩), (congrFun m5 1).trans (congrFun z4 1), m6⟩, fun h => absurd h (by decide), fun h => absurd h (by decide), fun h => absurd h (by decide), fun h => absurd h (by decide), fun i hi h => absurd h (by omega), fun i hi h => absurd h (by omega)⟩
    refine z_widen (c1 := 48) (s1 := 558) (by omega) (by omega) ?_
    exact st5 S4 im4 N K D F
  have st3 : ∀ (S' : Sx) (im' : Mem), S'.1 = B + 31 → S'.2.1 B = 6 → DP S' im' B 31 → ((∀ a, a < B → sE S S' a) ∧ (∀ a, a < B → im' a = im a) ∧ im' B = im B) → V E κ 2 30 238 26 [some (.ref B), none] [] S' im' := by
    intro S' im' N K D F
    refine z_aload_n (pc := 26) C dX6_init_26 rfl ?_
    refine nX6_7 (pc := 27) C dX6_init_27 (by omega) (by omega) ?_
    obtain ⟨T3, jm3, eS3, eI3, n3, k3, l3, r3, a3, z3, b3⟩ := nS_all (c := 3) (n := 0) (im := im') N
    rw [← eS3, ← eI3, N]
    refine z_dup (pc := 30) C dX6_init_30 rfl ?_
    refine kX6_9 (pc := 31) C dX6_init_31 (c3_init κ.2.1 E T3 jm3 (B + 31) n3 k3 l3 r3 z3) (by decide) (Nat.le_of_ble_eq_true rfl) (by omega) (by omega) (fun U3 im3 h_3 => ?_)
    obtain ⟨m1, m2, m3, m4, m5⟩ := h_3
    refine pX6_19 (pc := 34) C dX6_init_34 ((m3 B (by omega)).1.trans ((a3 B (by omega)).1.trans K)) ?_
    obtain ⟨S3, eT3, nn, cc, dd, eR, ff, gg⟩ := rS_all (S := U3) (q := B) (f := 2) (a := B + 31)
    rw [← eT3]
    have K : S3.2.1 B = 6 := (congrFun cc B).trans ((m3 B (by omega)).1.trans ((a3 B (by omega)).1.trans K))
    have N : S3.1 = B + 46 := nn.trans m1
    have hEE : ∀ a, a ≠ B → a < B + 31 → sE S' S3 a := fun a q1 q2 => (a3 a (by omega)).tr ((m3 a (by omega)).tr ⟨congrFun cc a, congrFun dd a, gg a q1⟩)
    have I : ∀ a, a < B + 31 → im3 a = im' a := fun a q => by rw [m4 a (by omega), b3 a (by omega)]
    have F : (∀ a, a < B → sE S S3 a) ∧ (∀ a, a < B → im3 a = im a) ∧ im3 B = im B := ⟨fun a q => (F.1 a q).tr (hEE a (by omega) (by omega)), fun a q => (I a (by omega)).trans (F.2.1 a q), (I B (by omega)).trans F.2.2⟩
    have D : DP S3 im3 B 31 := DP_mono 2 D (fun t ht h => by rcases (show t = 0 ∨ t = 1 ∨ t = 2 ∨ t = 3 ∨ t = 4 ∨ t = 5 ∨ t = 6 ∨ t = 7 by omega) with rfl | rfl | rfl | rfl | rfl | rfl | rfl | rfl <;> first | exact absurd h (by decide) | decide) (fun g q => (ff g q).trans ((congrFun (m3 B (by omega)).2.2 g).trans (congrFun (a3 B (by omega)).2.2 g))) (fun a q1 q2 => ⟨(hEE a (by omega) q2).1, (hEE a (by omega) q2).2.1, fun _ _ => (hEE a (by omega) q2).2.2⟩) (fun a q1 q2 => I a q2)
    have D : DP S3 im3 B 46 := ⟨fun t ht h => by
          rcases (show t = 0 ∨ t = 1 ∨ t = 2 ∨ t = 3 ∨ t = 4 ∨ t = 5 ∨ t = 6 ∨ t = 7 by omega) with rfl | rfl | rfl | rfl | rfl | rfl | rfl | rfl
          · exact D.1 0 (by decide) (by decide)
          · exact D.1 1 (by decide) (by decide)
          · exact eR
          · exact absurd h (by decide)
          · exact absurd h (by decide)
          · exact absurd h (by decide)
          · exact absurd h (by decide)
          · exact absurd h (by decide), fun _ => D.2.1 (by decide), fun _ => D.2.2.1 (by decide), fun _ => SL_e m2 (fun a q1 q2 => ⟨congrFun cc a, congrFun dd a, gg a (by omega)⟩), fun h => absurd h (by decide), fun h => absurd h (by decide), fun h => absurd h (by decide), fun h => absurd h (by decide), fun h => absurd h (by decide), fun i hi h => absurd h (by omega), fun i hi h => absurd h (by omega)⟩
    refine z_widen (c1 := 45) (s1 := 357) (by omega) (by omega) ?_
    exact st4 S3 im3 N K D F
  have st2 : ∀ (S' : Sx) (im' : Mem), S'.1 = B + 16 → S'.2.1 B = 6 → DP S' im' B 16 → ((∀ a, a < B → sE S S' a) ∧ (∀ a, a < B → im' a = im a) ∧ im' B = im B) → V E κ 2 15 119 15 [some (.ref B), none] [] S' im' := by
    intro S' im' N K D F
    refine z_aload_n (pc := 15) C dX6_init_15 rfl ?_
    refine nX6_7 (pc := 16) C dX6_init_16 (by omega) (by omega) ?_
    obtain ⟨T2, jm2, eS2, eI2, n2, k2, l2, r2, a2, z2, b2⟩ := nS_all (c := 3) (n := 0) (im := im') N
    rw [← eS2, ← eI2, N]
    refine z_dup (pc := 19) C dX6_init_19 rfl ?_
    refine kX6_9 (pc := 20) C dX6_init_20 (c3_init κ.2.1 E T2 jm2 (B + 16) n2 k2 l2 r2 z2) (by decide) (Nat.le_of_ble_eq_true rfl) (by omega) (by omega) (fun U2 im2 h_2 => ?_)
    obtain ⟨m1, m2, m3, m4, m5⟩ := h_2
    refine pX6_16 (pc := 23) C dX6_init_23 ((m3 B (by omega)).1.trans ((a2 B (by omega)).1.trans K)) ?_
    obtain ⟨S2, eT2, nn, cc, dd, eR, ff, gg⟩ := rS_all (S := U2) (q := B) (f := 1) (a := B + 16)
    rw [← eT2]
    have K : S2.2.1 B = 6 := (congrFun cc B).trans ((m3 B (by omega)).1.trans ((a2 B (by omega)).1.trans K))
    have N : S2.1 = B + 31 := nn.trans m1
    have hEE : ∀ a, a ≠ B → a < B + 16 → sE S' S2 a := fun a q1 q2 => (a2 a (by omega)).tr ((m3 a (by omega)).tr ⟨congrFun cc a, congrFun dd a, gg a q1⟩)
    have I : ∀ a, a < B + 16 → im2 a = im' a := fun a q => by rw [m4 a (by omega), b2 a (by omega)]
    have F : (∀ a, a < B → sE S S2 a) ∧ (∀ a, a < B → im2 a = im a) ∧ im2 B = im B := ⟨fun a q => (F.1 a q).tr (hEE a (by omega) (by omega)), fun a q => (I a (by omega)).trans (F.2.1 a q), (I B (by omega)).trans F.2.2⟩
    have D : DP S2 im2 B 16 := DP_mono 1 D (fun t ht h => by rcases (show t = 0 ∨ t = 1 ∨ t = 2 ∨ t = 3 ∨ t = 4 ∨ t = 5 ∨ t = 6 ∨ t = 7 by omega) with rfl | rfl | rfl | rfl | rfl | rfl | rfl | rfl <;> first | exact absurd h (by decide) | decide) (fun g q => (ff g q).trans ((congrFun (m3 B (by omega)).2.2 g).trans (congrFun (a2 B (by omega)).2.2 g))) (fun a q1 q2 => ⟨(hEE a (by omega) q2).1, (hEE a (by omega) q2).2.1, fun _ _ => (hEE a (by omega) q2).2.2⟩) (fun a q1 q2 => I a q2)
    have D : DP S2 im2 B 31 := ⟨fun t ht h => by
          rcases (show t = 0 ∨ t = 1 ∨ t = 2 ∨ t = 3 ∨ t = 4 ∨ t = 5 ∨ t = 6 ∨ t = 7 by omega) with rfl | rfl | rfl | rfl | rfl | rfl | rfl | rfl
          · exact D.1 0 (by decide) (by decide)
          · exact eR
          · exact absurd h (by decide)
          · exact absurd h (by decide)
          · exact absurd h (by decide)
          · exact absurd h (by decide)
          · exact absurd h (by decide)
          · exact absurd h (by decide), fun _ => D.2.1 (by decide), fun _ => SL_e m2 (fun a q1 q2 => ⟨congrFun cc a, congrFun dd a, gg a (by omega)⟩), fun h => absurd h (by decide), fun h => absurd h (by decide), fun h => absurd h (by decide), fun h => absurd h (by decide), fun h => absurd h (by decide), fun h => absurd h (by decide), fun i hi h => absurd h (by omega), fun i hi h => absurd h (by omega)⟩
    refine z_widen (c1 := 30) (s1 := 238) (by omega) (by omega) ?_
    exact st3 S2 im2 N K D F
  have st1 : ∀ (S' : Sx) (im' : Mem), S'.1 = B + 1 → S'.2.1 B = 6 → DP S' im' B 1 → ((∀ a, a < B → sE S S' a) ∧ (∀ a, a < B → im' a = im a) ∧ im' B = im B) → V E κ 2 0 0 4 [some (.ref B), none] [] S' im' := by
    intro S' im' N K D F
    refine z_aload_n (pc := 4) C dX6_init_4 rfl ?_
    refine nX6_7 (pc := 5) C dX6_init_5 (by omega) (by omega) ?_
    obtain ⟨T1, jm1, eS1, eI1, n1, k1, l1, r1, a1, z1, b1⟩ := nS_all (c := 3) (n := 0) (im := im') N
    rw [← eS1, ← eI1, N]
    refine z_dup (pc := 8) C dX6_init_8 rfl ?_
    refine kX6_9 (pc := 9) C dX6_init_9 (c3_init κ.2.1 E T1 jm1 (B + 1) n1 k1 l1 r1 z1) (by decide) (Nat.le_of_ble_eq_true rfl) (by omega) (by omega) (fun U1 im1 h_1 => ?_)
    obtain ⟨m1, m2, m3, m4, m5⟩ := h_1
    refine pX6_10 (pc := 12) C dX6_init_12 ((m3 B (by omega)).1.trans ((a1 B (by omega)).1.trans K)) ?_
    obtain ⟨S1, eT1, nn, cc, dd, eR, ff, gg⟩ := rS_all (S := U1) (q := B) (f := 0) (a := B + 1)
    rw [← eT1]
    have K : S1.2.1 B = 6 := (congrFun cc B).trans ((m3 B (by omega)).1.trans ((a1 B (by omega)).1.trans K))
    have N : S1.1 = B + 16 := nn.trans m1
    have hEE : ∀ a, a ≠ B → a < B + 1 → sE S' S1 a := fun a q1 q2 => (a1 a (by omega)).tr ((m3 a (by omega)).tr ⟨congrFun cc a, congrFun dd a, gg a q1⟩)
    have I : ∀ a, a < B + 1 → im1 a = im' a := fun a q => by rw [m4 a (by omega), b1 a (by omega)]
    have F : (∀ a, a < B → sE S S1 a) ∧ (∀ a, a < B → im1 a = im a) ∧ im1 B = im B := ⟨fun a q => (F.1 a q).tr (hEE a (by omega) (by omega)), fun a q => (I a (by omega)).trans (F.2.1 a q), (I B (by omega)).trans F.2.2⟩
    have D : DP S1 im1 B 1 := DP_mono 0 D (fun t ht h => by rcases (show t = 0 ∨ t = 1 ∨ t = 2 ∨ t = 3 ∨ t = 4 ∨ t = 5 ∨ t = 6 ∨ t = 7 by omega) with rfl | rfl | rfl | rfl | rfl | rfl | rfl | rfl <;> first | exact absurd h (by decide) | decide) (fun g q => (ff g q).trans ((congrFun (m3 B (by omega)).2.2 g).trans (congrFun (a1 B (by omega)).2.2 g))) (fun a q1 q2 => ⟨(hEE a (by omega) q2).1, (hEE a (by omega) q2).2.1, fun _ _ => (hEE a (by omega) q2).2.2⟩) (fun a q1 q2 => I a q2)
    have D : DP S1 im1 B 16 := ⟨fun t ht h => by
          rcases (show t = 0 ∨ t = 1 ∨ t = 2 ∨ t = 3 ∨ t = 4 ∨ t = 5 ∨ t = 6 ∨ t = 7 by omega) with rfl | rfl | rfl | rfl | rfl | rfl | rfl | rfl
          · exact eR
          · exact absurd h (by decide)
          · exact absurd h (by decide)
          · exact absurd h (by decide)
          · exact absurd h (by decide)
          · exact absurd h (by decide)
          · exact absurd h (by decide)
          · exact absurd h (by decide), fun _ => ⟨SL_e m2 (fun a q1 q2 => ⟨congrFun cc a, congrFun dd a, gg a (by omega)⟩), m5⟩, fun h => absurd h (by decide), fun h => absurd h (by decide), fun h => absurd h (by decide), fun h => absurd h (by decide), fun h => absurd h (by decide), fun h => absurd h (by decide), fun h => absurd h (by decide), fun i hi h => absurd h (by omega), fun i hi h => absurd h (by omega)⟩
    refine z_widen (c1 := 15) (s1 := 119) (by omega) (by omega) ?_
    exact st2 S1 im1 N K D F
  have F : (∀ a, a < B → sE S S a) ∧ (∀ a, a < B → im a = im a) ∧ im B = im B := ⟨fun a _ => sE.rf, fun a _ => rfl, rfl⟩
  have D : DP S im B 1 := ⟨fun k hk h => absurd h (by rcases (show k = 0 ∨ k = 1 ∨ k = 2 ∨ k = 3 ∨ k = 4 ∨ k = 5 ∨ k = 6 ∨ k = 7 by omega) with rfl | rfl | rfl | rfl | rfl | rfl | rfl | rfl <;> decide), fun h => absurd h (by decide), fun h => absurd h (by decide), fun h => absurd h (by decide), fun h => absurd h (by decide), fun h => absurd h (by decide), fun h => absurd h (by decide), fun h => absurd h (by decide), fun h => absurd h (by decide), fun i hi h => absurd h (by omega), fun i hi h => absurd h (by omega)⟩
  refine z_aload_n (pc := 0) C dX6_init_0 rfl ?_
  refine z_obj (pc := 1) C dX6_init_1 wm_X6_1 (by decide) (Nat.le_of_ble_eq_true rfl) ?_
  exact st1 S im N K D F
