/-! new cells; small constructors -/
section ZNW
variable {E : Ex} {κ : Kx} {cc : ByteArray} {nL : Nat} {own : String} {ret : Option FieldType} {d Rc Rs : Nat} {nm : String} {cells slots pc : Nat} {L : List (Option Value)} {st : List Value} {S : Sx} {im : Mem}
theorem z_newi (C : Cx E κ cc nL own ret d Rc Rs nm) {n : Nat} (hd : decode cc pc = .ok (.newarray .int, 2)) (hn : n < 2 ^ 20) (hc : cells + 1 ≤ Rc) (hs : slots + n ≤ Rs) (kk : V E κ nL (cells + 1) (slots + n) (pc + 2) L (.ref S.1 :: st) (nS S 8 n) (nM S im)) : V E κ nL cells slots pc L (.int (nI n) :: st) S im := z_newa C 8 (atype := .int) (ty := .int) hd rfl wa_int (by decide) (by decide) rfl rfl (fun h => h) (by omega) (by show n * 4 ≤ _; omega) hc hs kk
theorem z_newz (C : Cx E κ cc nL own ret d Rc Rs nm) {n : Nat} (hd : decode cc pc = .ok (.newarray .boolean, 2)) (hn : n < 2 ^ 20) (hc : cells + 1 ≤ Rc) (hs : slots + n ≤ Rs) (kk : V E κ nL (cells + 1) (slots + n) (pc + 2) L (.ref S.1 :: st) (nS S 9 n) (nM S im)) : V E κ nL cells slots pc L (.int (nI n) :: st) S im := z_newa C 9 (atype := .boolean) (ty := .boolean) hd rfl wa_boolean (by decide) (by decide) rfl rfl (fun h => h) (by omega) (by show n * 1 ≤ _; omega) hc hs kk
theorem z_newc (C : Cx E κ cc nL own ret d Rc Rs nm) {n : Nat} (hd : decode cc pc = .ok (.newarray .char, 2)) (hn : n < 2 ^ 20) (hc : cells + 1 ≤ Rc) (hs : slots + n ≤ Rs) (kk : V E κ nL (cells + 1) (slots + n) (pc + 2) L (.ref S.1 :: st) (nS S 10 n) (nM S im)) : V E κ nL cells slots pc L (.int (nI n) :: st) S im := z_newa C 10 (atype := .char) (ty := .char) hd rfl wa_char (by decide) (by decide) rfl rfl (fun h => h) (by omega) (by show n * 2 ≤ _; omega) hc hs kk
/-- nothing of ours lies behind the heap's end -/
theorem z_fresh (kk : (∀ q, S.2.1 q < 15 → q < S.1) → V E κ nL cells slots pc L st S im) : V E κ nL cells slots pc L st S im := fun H ls locs h1 h2 h3 => by
  refine kk (fun q hq => ?_) H ls locs h1 h2 h3
  have hat := (h2.2.2.2 q hq).2
  rw [← h2.1]
  unfold cel at hat
  split at hat
  · obtain ⟨r, -, hob⟩ := hat
    obtain ⟨cell, g1, -⟩ := hob
    exact (Array.getElem?_eq_some_iff.mp g1).1
  · split at hat
    · exact (Array.getElem?_eq_some_iff.mp (show H[q]? = some _ from hat)).1
    · exact (Array.getElem?_eq_some_iff.mp (show H[q]? = some _ from hat)).1
end ZNW
/-- at this address nothing has changed -/
def sE (S S' : Sx) (a : Nat) : Prop := S'.2.1 a = S.2.1 a ∧ S'.2.2.1 a = S.2.2.1 a ∧ S'.2.2.2 a = S.2.2.2 a
theorem sE.rf {S : Sx} {a : Nat} : sE S S a := ⟨rfl, rfl, rfl⟩
theorem sE.tr {A B C : Sx} {a : Nat} (h : sE A B a) (g : sE B C a) : sE A C a := ⟨g.1.trans h.1, g.2.1.trans h.2.1, g.2.2.trans h.2.2⟩
theorem nS_all {S : Sx} {im : Mem} {p c n : Nat} (h : S.1 = p) : ∃ (S1 : Sx) (im1 : Mem), S1 = nS S c n ∧ im1 = nM S im ∧ S1.1 = p + 1 ∧ S1.2.1 p = c ∧ S1.2.2.1 p = n ∧ S1.2.2.2 p = (fun _ => none) ∧ (∀ a, a ≠ p → sE S S1 a) ∧ im1 p = (fun _ => 0) ∧ ∀ a, a ≠ p → im1 a = im a := by
  subst h
  exact ⟨nS S c n, nM S im, rfl, rfl, rfl, up_s _ _ _, up_s _ _ _, up_s _ _ _, fun a ha => ⟨up_n _ _ ha, up_n _ _ ha, up_n _ _ ha⟩, up_s _ _ _, fun a ha => up_n _ _ ha⟩
theorem rS_all {S : Sx} {q f a : Nat} : ∃ S1, S1 = rS S q (va_up (S.2.2.2 q) f (some a)) ∧ S1.1 = S.1 ∧ S1.2.1 = S.2.1 ∧ S1.2.2.1 = S.2.2.1 ∧ S1.2.2.2 q f = some a ∧ (∀ g, g ≠ f → S1.2.2.2 q g = S.2.2.2 q g) ∧ ∀ b, b ≠ q → S1.2.2.2 b = S.2.2.2 b := by
  refine ⟨_, rfl, rfl, rfl, rfl, ?_, fun g hg => ?_, fun b hb => up_n _ _ hb⟩
  · show va_up S.2.2.2 q _ q f = _
    rw [up_s, up_s]
  · show va_up S.2.2.2 q _ q g = _
    rw [up_s, up_n _ _ hg]
set_option maxRecDepth 100000 in
set_option maxHeartbeats 4000000 in
theorem c0_init (l : Launch) (E : Ex) (S : Sx) (im : Mem) (q : Nat) : Mt l E yX0_init cX0_init 1 none 2 0 0 [.ref q] S im (pV (pM S im)) := by
  refine Mt.of (by decide +kernel) rfl rfl (Nat.le_of_ble_eq_true rfl) ?_
  intro κ hκ C ρ
  subst hκ
  show V E κ 1 0 0 0 [some (.ref q)] [] S im
  refine z_aload_n (pc := 0) C dX0_init_0 rfl ?_
  refine z_obj (pc := 1) C dX0_init_1 wm_X0_3 (by decide) (Nat.le_of_ble_eq_true rfl) ?_
  exact z_vret (pc := 4) C ρ dX0_init_4 (⟨rfl, rfl, rfl⟩)
set_option maxRecDepth 100000 in
set_option maxHeartbeats 4000000 in
theorem c1_init (l : Launch) (E : Ex) (S : Sx) (im : Mem) (q : Nat) (N : S.1 = q + 1) (K : S.2.1 q = 1)  : Mt l E yX1_init cX1_init 1 none 2 1 24 [.ref q] S im (pV (fun S' im' => S'.1 = q + 2 ∧ (∀ a, a < q → sE S S' a) ∧ TL S' q ∧ (∀ a, a < q → im' a = im a) ∧ im' q = upd (im q) 0 (-1) ∧ im' (q + 1) = fun _ => 0)) := by
  refine Mt.of (by decide +kernel) rfl rfl (Nat.le_of_ble_eq_true rfl) ?_
  intro κ hκ C ρ
  subst hκ
  show V E κ 1 0 0 0 [some (.ref q)] [] S im
  refine z_aload_n (pc := 0) C dX1_init_0 rfl ?_
  refine z_obj (pc := 1) C dX1_init_1 wm_X1_3 (by decide) (Nat.le_of_ble_eq_true rfl) ?_
  refine z_aload_n (pc := 4) C dX1_init_4 rfl ?_
  refine z_iconst (v := -1) (pc := 5) C dX1_init_5 (by decide) ?_
  refine pX1_11 (pc := 6) C dX1_init_6 K ?_
  refine z_aload_n (pc := 9) C dX1_init_9 rfl ?_
  refine z_bipushN (pc := 10) C 24 (by decide) dX1_init_10 ?_
  refine z_newi (pc := 12) C dX1_init_12 (by omega) (by omega) (by omega) ?_
  obtain ⟨S1, im1, eS1, eI1, n1, k1, l1, r1, a1, z1, b1⟩ := nS_all (c := 8) (n := 24) (im := up2 im q 0 (-1)) N
  rw [← eS1, ← eI1, N]
  have K : S1.2.1 q = 1 := (a1 q (by omega)).1.trans K
  have N : S1.1 = q + 2 := n1
  refine pX1_15 (pc := 14) C dX1_init_14 K ?_
  obtain ⟨S2, eS2, n2, c2, d2, e2, f2, g2⟩ := rS_all (S := S1) (q := q) (f := 2) (a := q + 1)
  rw [← eS2]
  have K : S2.2.1 q = 1 := (congrFun c2 q).trans K
  have N : S2.1 = q + 2 := n2.trans N
  exact z_vret (pc := 17) C ρ dX1_init_17 (⟨rfl, N, fun a ha => ((a1 a (by omega)).tr ⟨congrFun c2 a, congrFun d2 a, g2 a (by omega)⟩), ⟨K, e2, (congrFun c2 _).trans k1, (congrFun d2 _).trans l1⟩, fun a ha => by rw [b1 a (by omega), up2_n _ _ _ (by omega)], by rw [b1 q (by omega), up2_s], z1⟩)
theorem TL_e {S S' : Sx} {q : Nat} (h : TL S q) (e : ∀ a, q ≤ a → a < q + 2 → sE S S' a) : TL S' q := by
  obtain ⟨h1, h2, h3, h4⟩ := h
  exact ⟨(e q (by omega) (by omega)).1.trans h1, (congrFun (e q (by omega) (by omega)).2.2 2).trans h2, (e _ (by omega) (by omega)).1.trans h3, (e _ (by omega) (by omega)).2.1.trans h4⟩
set_option maxRecDepth 100000 in
set_option maxHeartbeats 4000000 in
theorem c2_init (l : Launch) (E : Ex) (S : Sx) (im : Mem) (q : Nat) (N : S.1 = q + 1) (K : S.2.1 q = 2)  : Mt l E yX2_init cX2_init 1 none 3 3 34 [.ref q] S im (pV (fun S' im' => S'.1 = q + 4 ∧ (∀ a, a < q → sE S S' a) ∧ S'.2.1 q = 2 ∧ S'.2.2.2 q 1 = some (q + 1) ∧ S'.2.2.2 q 2 = some (q + 2) ∧ S'.2.1 (q + 1) = 0 ∧ TL S' (q + 2) ∧ (∀ a, a < q → im' a = im a) ∧ im' q = im q)) := by
  refine Mt.of (by decide +kernel) rfl rfl (Nat.le_of_ble_eq_true rfl) ?_
  intro κ hκ C ρ
  subst hκ
  show V E κ 1 0 0 0 [some (.ref q)] [] S im
  refine z_aload_n (pc := 0) C dX2_init_0 rfl ?_
  refine z_obj (pc := 1) C dX2_init_1 wm_X2_1 (by decide) (Nat.le_of_ble_eq_true rfl) ?_
  refine z_aload_n (pc := 4) C dX2_init_4 rfl ?_
  refine nX2_7 (pc := 5) C dX2_init_5 (by omega) (by omega) ?_
  obtain ⟨S1, im1, eS1, eI1, n1, k1, l1, r1, a1, z1, b1⟩ := nS_all (c := 0) (n := 0) (im := im) N
  rw [← eS1, ← eI1, N]
  have K : S1.2.1 q = 2 := (a1 q (by omega)).1.trans K
  have N : S1.1 = q + 2 := n1
  refine z_dup (pc := 8) C dX2_init_8 rfl ?_
  refine kX2_9 (pc := 9) C dX2_init_9 (c0_init κ.2.1 E S1 im1 (q + 1)) (by decide) (Nat.le_of_ble_eq_true rfl) (by omega) (by omega) (fun S_9 im_9 h_9 => ?_)
  obtain ⟨rfl, rfl⟩ := h_9
  refine pX2_10 (pc := 12) C dX2_init_12 K ?_
  obtain ⟨S2, eS2, n2, c2, d2, e2, f2, g2⟩ := rS_all (S := S1) (q := q) (f := 1) (a := q + 1)
  rw [← eS2]
  have K : S2.2.1 q = 2 := (congrFun c2 q).trans K
  have N : S2.1 = q + 2 := n2.trans N
  refine z_aload_n (pc := 15) C dX2_init_15 rfl ?_
  refine nX2_16 (pc := 16) C dX2_init_16 (by omega) (by omega) ?_
  obtain ⟨S3, im3, eS3, eI3, n3, k3, l3, r3, a3, z3, b3⟩ := nS_all (c := 1) (n := 0) (im := im1) N
  rw [← eS3, ← eI3, N]
  have K : S3.2.1 q = 2 := (a3 q (by omega)).1.trans K
  have N : S3.1 = q + 3 := n3
  refine z_dup (pc := 19) C dX2_init_19 rfl ?_
  refine kX2_18 (pc := 20) C dX2_init_20 (c1_init κ.2.1 E S3 im3 (q + 2) N k3) (by decide) (Nat.le_of_ble_eq_true rfl) (by omega) (by omega) (fun S_20 im_20 h_20 => ?_)
  obtain ⟨m1, m2, m3, m4, m5, m6⟩ := h_20
  have K : S_20.2.1 q = 2 := (m2 q (by omega)).1.trans K
  have N : S_20.1 = q + 4 := m1
  refine pX2_19 (pc := 23) C dX2_init_23 K ?_
  obtain ⟨S4, eS4, n4, c4, d4, e4, f4, g4⟩ := rS_all (S := S_20) (q := q) (f := 2) (a := q + 2)
  rw [← eS4]
  have K : S4.2.1 q = 2 := (congrFun c4 q).trans K
  have N : S4.1 = q + 4 := n4.trans N
  exact z_vret (pc := 26) C ρ dX2_init_26 (⟨rfl, N, fun a ha => (a1 a (by omega)).tr ((show sE S1 S2 a from ⟨congrFun c2 a, congrFun d2 a, g2 a (by omega)⟩).tr ((a3 a (by omega)).tr ((m2 a (by omega)).tr ⟨congrFun c4 a, congrFun d4 a, g4 a (by omega)⟩))), K, (f4 1 (by decide)).trans ((congrFun (m2 q (by omega)).2.2 1).trans ((congrFun (a3 q (by omega)).2.2 1).trans e2)), e4, (congrFun c4 _).trans ((m2 _ (by omega)).1.trans ((a3 _ (by omega)).1.trans ((congrFun c2 _).trans k1))), TL_e m3 (fun a h1 h2 => ⟨congrFun c4 a, congrFun d4 a, g4 a (by omega)⟩), fun a ha => by rw [m4 a (by omega), b3 a (by omega), b1 a (by omega)], by rw [m4 q (by omega), b3 q (by omega), b1 q (by omega)]⟩)
set_option maxRecDepth 100000 in
set_option maxHeartbeats 4000000 in
theorem c5_init (l : Launch) (E : Ex) (S : Sx) (im : Mem) (q : Nat) (N : S.1 = q + 1) (K : S.2.1 q = 5)  : Mt l E yX5_init cX5_init 1 none 2 2 192 [.ref q] S im (pV (fun S' im' => S'.1 = q + 3 ∧ (∀ a, a < q → sE S S' a) ∧ RLay S' q ∧ (∀ a, a < q → im' a = im a) ∧ im' q = im q ∧ im' (q + 1) = fun _ => 0)) := by
  refine Mt.of (by decide +kernel) rfl rfl (Nat.le_of_ble_eq_true rfl) ?_
  intro κ hκ C ρ
  subst hκ
  show V E κ 1 0 0 0 [some (.ref q)] [] S im
  refine z_aload_n (pc := 0) C dX5_init_0 rfl ?_
  refine z_obj (pc := 1) C dX5_init_1 wm_X5_3 (by decide) (Nat.le_of_ble_eq_true rfl) ?_
  refine z_aload_n (pc := 4) C dX5_init_4 rfl ?_
  refine z_bipushN (pc := 5) C 96 (by decide) dX5_init_5 ?_
  refine z_newi (pc := 7) C dX5_init_7 (by omega) (by omega) (by omega) ?_
  obtain ⟨S1, im1, eS1, eI1, n1, k1, l1, r1, a1, z1, b1⟩ := nS_all (c := 8) (n := 96) (im := im) N
  rw [← eS1, ← eI1, N]
  have K : S1.2.1 q = 5 := (a1 q (by omega)).1.trans K
  have N : S1.1 = q + 2 := n1
  refine pX5_9 (pc := 9) C dX5_init_9 K ?_
  obtain ⟨S2, eS2, n2, c2, d2, e2, f2, g2⟩ := rS_all (S := S1) (q := q) (f := 0) (a := q + 1)
  rw [← eS2]
  have K : S2.2.1 q = 5 := (congrFun c2 q).trans K
  have N : S2.1 = q + 2 := n2.trans N
  refine z_aload_n (pc := 12) C dX5_init_12 rfl ?_
  refine z_bipushN (pc := 13) C 96 (by decide) dX5_init_13 ?_
  refine z_newi (pc := 15) C dX5_init_15 (by omega) (by omega) (by omega) ?_
  obtain ⟨S3, im3, eS3, eI3, n3, k3, l3, r3, a3, z3, b3⟩ := nS_all (c := 8) (n := 96) (im := im1) N
  rw [← eS3, ← eI3, N]
  have K : S3.2.1 q = 5 := (a3 q (by omega)).1.trans K
  have N : S3.1 = q + 3 := n3
  refine pX5_15 (pc := 17) C dX5_init_17 K ?_
  obtain ⟨S4, eS4, n4, c4, d4, e4, f4, g4⟩ := rS_all (S := S3) (q := q) (f := 7) (a := q + 2)
  rw [← eS4]
  have K : S4.2.1 q = 5 := (congrFun c4 q).trans K
  have N : S4.1 = q + 3 := n4.trans N
  exact z_vret (pc := 20) C ρ dX5_init_20 (⟨rfl, N, fun a ha => (a1 a (by omega)).tr ((show sE S1 S2 a from ⟨congrFun c2 a, congrFun d2 a, g2 a (by omega)⟩).tr ((a3 a (by omega)).tr ⟨congrFun c4 a, congrFun d4 a, g4 a (by omega)⟩)), ⟨K, (f4 0 (by decide)).trans ((congrFun (a3 q (by omega)).2.2 0).trans e2), e4, ⟨(congrFun c4 _).trans ((a3 _ (by omega)).1.trans ((congrFun c2 _).trans k1)), (congrFun d4 _).trans ((a3 _ (by omega)).2.1.trans ((congrFun d2 _).trans l1))⟩, ⟨(congrFun c4 _).trans k3, (congrFun d4 _).trans l3⟩⟩, fun a ha => by rw [b3 a (by omega), b1 a (by omega)], by rw [b3 q (by omega), b1 q (by omega)], by rw [b3 _ (by omega)]; exact z1⟩)
set_option maxRecDepth 100000 in
set_option maxHeartbeats 4000000 in
theorem c4_init (l : Launch) (E : Ex) (S : Sx) (im : Mem) (q : Nat) (N : S.1 = q + 1) (K : S.2.1 q = 4) (y : Nat) (ky : Int32) (o : Nat) (ho : o ≤ 97) (u : Nat) (hu : u = max o 1) : Mt l E yX4_init cX4_init 4 none 2 1 u [.ref q, .int ky, .int (nI o), .ref y] S im (pV (fun S' im' => S'.1 = q + 2 ∧ (∀ a, a < q → sE S S' a) ∧ S'.2.1 q = 4 ∧ S'.2.2.2 q 2 = some y ∧ S'.2.2.2 q 3 = some (q + 1) ∧ S'.2.1 (q + 1) = 8 ∧ S'.2.2.1 (q + 1) = u ∧ (∀ a, a < q → im' a = im a) ∧ im' q 0 = ky ∧ im' q 1 = nI o)) := by
  refine Mt.of (by decide +kernel) rfl rfl (Nat.le_of_ble_eq_true rfl) ?_
  intro κ hκ C ρ
  subst hκ
  show V E κ 4 0 0 0 [some (.ref q), some (.int ky), some (.int (nI o)), some (.ref y)] [] S im
  refine z_aload_n (pc := 0) C dX4_init_0 rfl ?_
  refine z_obj (pc := 1) C dX4_init_1 wm_X4_1 (by decide) (Nat.le_of_ble_eq_true rfl) ?_
  refine z_aload_n (pc := 4) C dX4_init_4 rfl ?_
  refine z_iload_n (pc := 5) C dX4_init_5 rfl ?_
  refine pX4_7 (pc := 6) C dX4_init_6 K ?_
  refine z_aload_n (pc := 9) C dX4_init_9 rfl ?_
  refine z_iload_n (pc := 10) C dX4_init_10 rfl ?_
  refine pX4_13 (pc := 11) C dX4_init_11 K ?_
  refine z_aload_n (pc := 14) C dX4_init_14 rfl ?_
  refine z_aload_n (pc := 15) C dX4_init_15 rfl ?_
  refine pX4_16 (pc := 16) C dX4_init_16 K ?_
  obtain ⟨S1, eS1, n1, c1, d1, e1, f1, g1⟩ := rS_all (S := S) (q := q) (f := 2) (a := y)
  rw [← eS1]
  have K : S1.2.1 q = 4 := (congrFun c1 q).trans K
  have N : S1.1 = q + 1 := n1.trans N
  refine z_aload_n (pc := 19) C dX4_init_19 rfl ?_
  refine z_iload_n (pc := 20) C dX4_init_20 rfl ?_
  refine z_iconstN (pc := 21) C 1 dX4_init_21 ?_
  refine z_max (pc := 22) C dX4_init_22 wm_X4_20 (by decide) (Nat.le_of_ble_eq_true rfl) (Nat.zero_le _) (Nat.zero_le _) ?_
  refine z_eqi (y := nI u) (by rw [hu]; by_cases h : o < 1; (rw [if_pos (nI_lt h (by decide)), show max o 1 = 1 by omega]); rw [if_neg (nI_nlt (by omega) (by omega)), show max o 1 = o by omega]) ?_
  refine z_newi (pc := 25) C dX4_init_25 (by omega) (by omega) (by omega) ?_
  obtain ⟨S2, im2, eS2, eI2, n2, k2, l2, r2, a2, z2, b2⟩ := nS_all (c := 8) (n := u) (im := up2 (up2 im q 0 ky) q 1 (nI o)) N
  rw [← eS2, ← eI2, N]
  have K : S2.2.1 q = 4 := (a2 q (by omega)).1.trans K
  have N : S2.1 = q + 2 := n2
  refine pX4_26 (pc := 27) C dX4_init_27 K ?_
  obtain ⟨S3, eS3, n3, c3, d3, e3, f3, g3⟩ := rS_all (S := S2) (q := q) (f := 3) (a := q + 1)
  rw [← eS3]
  have K : S3.2.1 q = 4 := (congrFun c3 q).trans K
  have N : S3.1 = q + 2 := n3.trans N
  refine z_widen (c1 := 1) (s1 := u) (by omega) (by omega) ?_
  exact z_vret (pc := 30) C ρ dX4_init_30 (⟨rfl, N, fun a ha => (show sE S S1 a from ⟨congrFun c1 a, congrFun d1 a, g1 a (by omega)⟩).tr ((a2 a (by omega)).tr ⟨congrFun c3 a, congrFun d3 a, g3 a (by omega)⟩), K, (f3 2 (by decide)).trans ((congrFun (a2 q (by omega)).2.2 2).trans e1), e3, (congrFun c3 _).trans k2, (congrFun d3 _).trans l2, fun a ha => by rw [b2 a (by omega), up2_n _ _ _ (by omega), up2_n _ _ _ (by omega)], by rw [b2 q (by omega)]; simp [up2_at], by rw [b2 q (by omega)]; simp [up2_at]⟩)
