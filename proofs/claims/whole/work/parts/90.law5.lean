/-! the law: keep, back, check, text -/
theorem ST_eq {S : Sx} {im : Mem} {q X n n7 : Nat} {f g : Nat → Int32} (h : ST S im q X f n n7) (e : ∀ j, j < 1450 → g j = f j) : ST S im q X g n n7 := by
  have hn10 := h.1.1.1
  have h14 := h.2.1.1.1
  obtain ⟨b1, b2, b3, b4, b5, b6, b7⟩ := h.1.2.1
  refine ⟨⟨⟨hn10, (e 1 (by decide)).trans h.1.1.2.1, h.1.1.2.2⟩, ⟨b1.trans (e 0 (by decide)).symm, b2.trans (e 2 (by decide)).symm, b3.trans (e 3 (by decide)).symm, b4.trans (e 4 (by decide)).symm, b5.trans (e 5 (by decide)).symm, b6.trans (e 6 (by decide)).symm, b7.trans (e 7 (by decide)).symm⟩, fun l hl k hk => (h.1.2.2 l hl k hk).trans (e _ (by omega)).symm⟩, ⟨⟨h14, h.2.1.1.2.1, (e 7 (by decide)).trans h.2.1.1.2.2⟩, fun t ht => ?_, fun k hk => ?_⟩, RG_hd h.2.2 (e 4 (by decide)) (e 5 (by decide)) (fun j h1 h2 => e j (by omega))⟩
  · obtain ⟨i, m, key, u, g1, g2⟩ := h.2.1.2.1 t ht
    exact ⟨i, m, key, u, g1, TXr_cg g2 (e _ (by omega)) (e _ (by omega)) (fun k hk => e _ (by omega)) (fun a _ _ => ⟨rfl, rfl, rfl⟩) (fun _ _ _ => rfl)⟩
  · rw [s_cnt_cg n7 (fun t ht => e _ (by omega))]; exact h.2.1.2.2 k hk
theorem cpA_e (a b : Nat → Int32) : ∀ j, j < 1450 → cpA a b j = a j := fun j hj => by unfold cpA; rw [if_pos hj]
theorem ST_grow {S S' : Sx} {im im' : Mem} {q X n n7 N : Nat} {f : Nat → Int32} (h : ST S im q X f n n7) (hfr : ∀ a, S.2.1 a < 15 → a < N) (eS : ∀ a, X ≤ a → a < N → sE S S' a) (er : S'.2.2.2 (q + 3) = S.2.2.2 (q + 3)) (ei : ∀ a, q ≤ a → a < q + 15 → im' a = im a) (et : ∀ a, X ≤ a → a < N → im' a = im a) : ST S' im' q X f n n7 := by
  have hn10 := h.1.1.1
  have e0 := ei q (by omega) (by omega)
  refine ⟨⟨⟨hn10, h.1.1.2.1, by rw [e0]; exact h.1.1.2.2⟩, by rw [e0]; exact h.1.2.1, fun l hl k hk => by rw [ei _ (by omega) (by omega)]; exact h.1.2.2 l hl k hk⟩, ⟨⟨h.2.1.1.1, by rw [e0]; exact h.2.1.1.2.1, h.2.1.1.2.2⟩, fun t ht => ?_, fun k hk => by rw [ei _ (by omega) (by omega)]; exact h.2.1.2.2 k hk⟩, h.2.2⟩
  obtain ⟨i, m, key, u, g1, g2⟩ := h.2.1.2.1 t ht
  have k2 := hfr (X + 3 * i + 2) (by rw [g2.1.2.2.2.2.2.1]; decide)
  exact ⟨i, m, key, u, by rw [er]; exact g1, TXr_cg g2 rfl rfl (fun _ _ => rfl) (fun a h1 h2 => eS a (by omega) (by omega)) (fun a h1 h2 => et a (by omega) (by omega))⟩
theorem SL_a {S S' : Sx} {q : Nat} (h : SL S q) (e : ∀ a, q ≤ a → a < q + 15 → S'.2.1 a = S.2.1 a ∧ S'.2.2.1 a = S.2.2.1 a) (r0 : S'.2.2.2 q = S.2.2.2 q) (r1 : S'.2.2.2 (q + 1) = S.2.2.2 (q + 1)) : SL S' q := by
  obtain ⟨⟨a0, a1, a2, a3, a4⟩, ⟨b1, b2⟩, ⟨c1, c2⟩, ⟨d1, d2⟩, ⟨e1, e2⟩, g⟩ := h
  have s0 := e q (by omega) (by omega)
  have s1 := e (q + 1) (by omega) (by omega)
  have s2 := e (q + 2) (by omega) (by omega)
  have s3 := e (q + 3) (by omega) (by omega)
  have s4 := e (q + 4) (by omega) (by omega)
  refine ⟨⟨s0.1.trans a0, (congrFun r0 0).trans a1, (congrFun r0 2).trans a2, (congrFun r0 9).trans a3, (congrFun r0 11).trans a4⟩, ⟨s1.1.trans b1, s1.2.trans b2⟩, ⟨s2.1.trans c1, s2.2.trans c2⟩, ⟨s3.1.trans d1, s3.2.trans d2⟩, ⟨s4.1.trans e1, s4.2.trans e2⟩, fun i hi => ⟨(congrFun r1 i).trans (g i hi).1, (e (q + 5 + i) (by omega) (by omega)).1.trans (g i hi).2⟩⟩
theorem TL_a {S S' : Sx} {q : Nat} (h : TL S q) (e0 : S'.2.1 q = S.2.1 q) (e1 : S'.2.1 (q + 1) = S.2.1 (q + 1) ∧ S'.2.2.1 (q + 1) = S.2.2.1 (q + 1)) (r0 : S'.2.2.2 q = S.2.2.2 q) : TL S' q := by
  unfold TL at h ⊢
  rw [e0, e1.1, e1.2, r0]
  exact h
theorem CL_a {S S' : Sx} {B : Nat} (h : CL S B) (e : ∀ a, B ≤ a → a < B + 81 → S'.2.1 a = S.2.1 a ∧ S'.2.2.1 a = S.2.2.1 a) (r : ∀ a, B ≤ a → a < B + 81 → a ≠ B + 4 → S'.2.2.2 a = S.2.2.2 a) : CL S' B := by
  obtain ⟨⟨a0, a1⟩, ⟨s1, s2, s3⟩, ⟨c1, c2, c3, ⟨c4, c5⟩, ⟨c6, c7⟩⟩, ⟨⟨d1, d2⟩, ⟨d3, d4⟩, ⟨d5, d6⟩, ⟨d7, d8⟩⟩, g1, g2⟩ := h
  have E := fun k (hk : k < 81) => e (B + k) (by omega) (by omega)
  refine ⟨⟨(E 0 (by decide)).1.trans a0, by rw [r B (by omega) (by omega) (by omega)]; exact a1⟩, ⟨SL_a s1 (fun a h1 h2 => e a (by omega) (by omega)) (r _ (by omega) (by omega) (by omega)) (r _ (by omega) (by omega) (by omega)), SL_a s2 (fun a h1 h2 => e a (by omega) (by omega)) (r _ (by omega) (by omega) (by omega)) (r _ (by omega) (by omega) (by omega)), SL_a s3 (fun a h1 h2 => e a (by omega) (by omega)) (r _ (by omega) (by omega) (by omega)) (r _ (by omega) (by omega) (by omega))⟩, ⟨(E 46 (by decide)).1.trans c1, by rw [r _ (by omega) (by omega) (by omega)]; exact c2, by rw [r _ (by omega) (by omega) (by omega)]; exact c3, ⟨(E 47 (by decide)).1.trans c4, (E 47 (by decide)).2.trans c5⟩, ⟨(E 48 (by decide)).1.trans c6, (E 48 (by decide)).2.trans c7⟩⟩, ⟨⟨(E 49 (by decide)).1.trans d1, (E 49 (by decide)).2.trans d2⟩, ⟨(E 50 (by decide)).1.trans d3, (E 50 (by decide)).2.trans d4⟩, ⟨(E 51 (by decide)).1.trans d5, (E 51 (by decide)).2.trans d6⟩, ⟨(E 52 (by decide)).1.trans d7, (E 52 (by decide)).2.trans d8⟩⟩, fun i hi => ?_, fun i hi => ?_⟩
  · obtain ⟨p1, p2⟩ := g1 i hi
    exact ⟨by rw [r _ (by omega) (by omega) (by omega)]; exact p1, TL_a p2 (e _ (by omega) (by omega)).1 (e _ (by omega) (by omega)) (r _ (by omega) (by omega) (by omega))⟩
  · obtain ⟨p1, p2, p3, p4, p5, p6⟩ := g2 i hi
    exact ⟨by rw [r _ (by omega) (by omega) (by omega)]; exact p1, (e _ (by omega) (by omega)).1.trans p2, by rw [r _ (by omega) (by omega) (by omega)]; exact p3, by rw [r _ (by omega) (by omega) (by omega)]; exact p4, (e _ (by omega) (by omega)).1.trans p5, TL_a p6 (e _ (by omega) (by omega)).1 (e _ (by omega) (by omega)) (r _ (by omega) (by omega) (by omega))⟩
theorem ML_a {S S' : Sx} {M : Nat} (h : ML S M) (e : ∀ a, M ≤ a → a < M + 26 → S'.2.1 a = S.2.1 a ∧ S'.2.2.1 a = S.2.2.1 a) (r : S'.2.2.2 M = S.2.2.2 M) : ML S' M := ⟨fun j hj => ⟨(e (M + j) (by omega) (by omega)).1.trans (h.1 j hj).1, (e (M + j) (by omega) (by omega)).2.trans (h.1 j hj).2⟩, fun k hk h0 => (congrFun r k).trans (h.2 k hk h0)⟩
theorem img_ex {S : Sx} {im : Mem} {B : Nat} (h : I_img S im B) : ∃ n n7, im B 3 ≠ 0 → ST S im (B + 16) (B + 107) (im (B + 81 + 2)) n n7 ∧ inR 0 9999 (im (B + 81 + 2) 2) := by
  by_cases e : im B 3 = 0
  · exact ⟨0, 0, fun h => absurd e h⟩
  · obtain ⟨⟨n, n7, h1⟩, h2⟩ := h.2 (by rw [← h.1]; exact e)
    exact ⟨n, n7, fun _ => ⟨h1, h2⟩⟩
theorem INV_keep {S S1 : Sx} {im im1 im2 : Mem} {B m n7 : Nat} (h : INV S im B) (hst : ST S im (B + 1) (B + 107) (im (B + 81 + 1)) m n7) (h02 : inR 0 9999 (im (B + 81 + 1) 2)) (sx : SX (B + 16) S S1) (st1 : ST S1 im1 (B + 16) (B + 107) (im (B + 81 + 1)) m n7) (a1 : im1 B = upd (im B) 3 1) (a2 : ∀ a, a ≠ B → (a < B + 16 ∨ B + 31 ≤ a) → im1 a = im a) (b1 : im2 (B + 81 + 2) = cpA (im (B + 81 + 1)) (im1 (B + 81 + 2))) (b2 : im2 (B + 81) = upd (im1 (B + 81)) 3 1) (b3 : ∀ a, a ≠ B + 81 → a ≠ B + 81 + 2 → im2 a = im1 a) : INV S1 im2 B := by
  obtain ⟨⟨hC, hM, i0, hi0⟩, -, -, ⟨h4, h5⟩, h6, h7, h8, h9⟩ := h
  have q : ∀ a, a ≠ B → (a < B + 16 ∨ B + 31 ≤ a) → a ≠ B + 81 → a ≠ B + 81 + 2 → im2 a = im a := fun a q1 q2 q3 q4 => (b3 a q3 q4).trans (a2 a q1 q2)
  have e82 := q (B + 81 + 1) (by omega) (by omega) (by omega) (by omega)
  have qM : ∀ j, j ≠ 3 → im2 (B + 81) j = im (B + 81) j := fun j hj => by rw [b2, upd_n _ _ hj, a2 _ (by omega) (by omega)]
  have qB : ∀ j, j ≠ 3 → im2 B j = im B j := fun j hj => by rw [b3 B (by omega) (by omega), a1, upd_n _ _ hj]
  refine ⟨⟨CL_X hC sx (Or.inr (Or.inl rfl)), ML_X hM sx (by omega), i0, by rw [sx.1]; exact hi0⟩, ⟨⟨m, n7, ?_⟩, by rw [e82]; exact h02⟩, ⟨by rw [b3 B (by omega) (by omega), a1, b2, upd_s, upd_s], fun _ => ⟨⟨m, n7, ?_⟩, by rw [b1, cpA_e _ _ 2 (by decide)]; exact h02⟩⟩, ⟨by rw [qM 4 (by decide)]; exact h4, KyOk_fr h5 (q _ (by omega) (by omega) (by omega) (by omega)) (q _ (by omega) (by omega) (by omega) (by omega))⟩, I_tp_fr h6 (fun a _ => q a (by omega) (by omega) (by omega) (by omega)) (qM 11 (by decide)), I_sh_fr h7 (fun a _ => q a (by omega) (by omega) (by omega) (by omega)), I_sl_fr h8 (fun a _ => q a (by omega) (by omega) (by omega) (by omega)), I_wt_fr h9 (fun a _ => q a (by omega) (by omega) (by omega) (by omega)) (qM 37 (by decide)) (qB 8 (by decide))⟩
  · rw [e82]
    exact ST_fr (ST_X hst sx (by omega) (by omega)) (fun a q1 q2 _ => q a (by omega) (by omega) (by omega) (by omega)) (fun a q1 _ => q a (by omega) (by omega) (by omega) (by omega))
  · rw [b1]
    exact ST_eq (ST_fr st1 (fun a q1 q2 _ => b3 a (by omega) (by omega)) (fun a q1 _ => b3 a (by omega) (by omega))) (cpA_e _ _)
theorem INV_back {S S1 : Sx} {im im1 im2 : Mem} {B m n7 : Nat} (h : INV S im B) (himg : im B 3 ≠ 0 → ST S im (B + 16) (B + 107) (im (B + 81 + 2)) m n7 ∧ inR 0 9999 (im (B + 81 + 2) 2)) (sx : SX (B + 1) S S1) (a1 : im B 3 = 0 → S = S1 ∧ im = im1) (a2 : im B 3 ≠ 0 → ST S1 im1 (B + 1) (B + 107) (im (B + 81 + 2)) m n7) (a3 : ∀ a, (a < B + 1 ∨ B + 16 ≤ a) → im1 a = im a) (b1 : im2 (B + 81 + 1) = (if im (B + 81) 3 = 0 then im (B + 81 + 1) else cpA (im (B + 81 + 2)) (im (B + 81 + 1)))) (b2 : ∀ a, a ≠ B + 81 + 1 → im2 a = im1 a) : INV S1 im2 B := by
  have h33 : im B 3 = im (B + 81) 3 := h.2.2.1.1
  by_cases c : im B 3 = 0
  · obtain ⟨rfl, rfl⟩ := a1 c
    rw [if_pos (h33.symm.trans c)] at b1
    have e : im2 = im := funext fun a => by
      by_cases ea : a = B + 81 + 1
      · rw [ea]; exact b1
      · exact b2 a ea
    rw [e]
    exact h
  · rw [if_neg (fun e => c (h33.trans e))] at b1
    obtain ⟨⟨hC, hM, i0, hi0⟩, -, h3, ⟨h4, h5⟩, h6, h7, h8, h9⟩ := h
    have q : ∀ a, a < B + 1 ∨ B + 16 ≤ a → a ≠ B + 81 + 1 → im2 a = im a := fun a q1 q2 => (b2 a q2).trans (a3 a q1)
    have hB := q B (by omega) (by omega)
    have hM0 := q (B + 81) (by omega) (by omega)
    refine ⟨⟨CL_X hC sx (Or.inl rfl), ML_X hM sx (by omega), i0, by rw [sx.1]; exact hi0⟩, ⟨⟨m, n7, ?_⟩, by rw [b1, cpA_e _ _ 2 (by decide)]; exact (himg c).2⟩, I_img_fr h3 (by rw [hM0]) (by rw [hB]) (q _ (by omega) (by omega)) (Or.inr (Or.inr sx)) (fun a _ _ => q a (by omega) (by omega)) (fun a _ _ => q a (by omega) (by omega)), ⟨by rw [hM0]; exact h4, KyOk_fr h5 (q _ (by omega) (by omega)) (q _ (by omega) (by omega))⟩, I_tp_fr h6 (fun a _ => q a (by omega) (by omega)) (by rw [hM0]), I_sh_fr h7 (fun a _ => q a (by omega) (by omega)), I_sl_fr h8 (fun a _ => q a (by omega) (by omega)), I_wt_fr h9 (fun a _ => q a (by omega) (by omega)) (by rw [hM0]) (by rw [hB])⟩
    rw [b1]
    exact ST_eq (ST_fr (a2 c) (fun a q1 q2 _ => b2 a (by omega)) (fun a q1 _ => b2 a (by omega))) (cpA_e _ _)
theorem INV_check {S S1 : Sx} {im im1 im2 : Mem} {B : Nat} (h : INV S im B) (sx : SX (B + 31) S S1) (a1 : im1 B = upd (im B) 8 (nI 0)) (a2 : ∀ a, a ≠ B → (a < B + 31 ∨ B + 46 ≤ a) → (a < B + 107 ∨ ¬ (a - (B + 107)) % 3 = 2) → im1 a = im a) (b1 : im2 (B + 81 + 1) = im (B + 81 + 1)) (b2 : im2 (B + 81) = upd (im1 (B + 81)) 37 (nI 0)) (b3 : ∀ a, a ≠ B + 81 → a ≠ B + 81 + 1 → a ≠ B + 81 + 3 → a ≠ B + 81 + 4 → a ≠ B + 81 + 5 → a ≠ B + 81 + 15 → a ≠ B + 81 + 16 → im2 a = im1 a) : INV S1 im2 B := by
  obtain ⟨⟨hC, hM, i0, hi0⟩, ⟨⟨m, n7, hst⟩, h02⟩, h3, ⟨h4, h5⟩, h6, h7, h8, h9⟩ := h
  have q : ∀ a, a ≠ B → (a < B + 31 ∨ B + 46 ≤ a) → (a < B + 107 ∨ ¬ (a - (B + 107)) % 3 = 2) → a ≠ B + 81 → a ≠ B + 81 + 1 → a ≠ B + 81 + 3 → a ≠ B + 81 + 4 → a ≠ B + 81 + 5 → a ≠ B + 81 + 15 → a ≠ B + 81 + 16 → im2 a = im a := fun a q1 q2 q3 p1 p2 p3 p4 p5 p6 p7 => (b3 a p1 p2 p3 p4 p5 p6 p7).trans (a2 a q1 q2 q3)
  have q0 : ∀ a, ((B + 1 ≤ a ∧ a < B + 31) ∨ (B + 46 ≤ a ∧ a ≤ B + 80) ∨ a = B + 83 ∨ (B + 87 ≤ a ∧ a ≤ B + 95) ∨ (B + 98 ≤ a ∧ a ≤ B + 106)) → im2 a = im a := fun a p => q a (by omega) (by omega) (by omega) (by omega) (by omega) (by omega) (by omega) (by omega) (by omega) (by omega)
  have qt : ∀ a, B + 107 ≤ a → ¬ (a - (B + 107)) % 3 = 2 → im2 a = im a := fun a p1 p2 => q a (by omega) (by omega) (Or.inr p2) (by omega) (by omega) (by omega) (by omega) (by omega) (by omega) (by omega)
  have qM : ∀ j, j ≠ 37 → im2 (B + 81) j = im (B + 81) j := fun j hj => by rw [b2, upd_n _ _ hj, a2 _ (by omega) (by omega) (by omega)]
  have eB : im2 B = im1 B := b3 B (by omega) (by omega) (by omega) (by omega) (by omega) (by omega) (by omega)
  have qB : ∀ j, j ≠ 8 → im2 B j = im B j := fun j hj => by rw [eB, a1, upd_n _ _ hj]
  refine ⟨⟨CL_X hC sx (Or.inr (Or.inr rfl)), ML_X hM sx (by omega), i0, by rw [sx.1]; exact hi0⟩, ⟨⟨m, n7, ?_⟩, by rw [b1]; exact h02⟩, I_img_fr h3 (qM 3 (by decide)) (qB 3 (by decide)) (q0 _ (by omega)) (Or.inr (Or.inl sx)) (fun a _ _ => q0 a (by omega)) qt, ⟨by rw [qM 4 (by decide)]; exact h4, KyOk_fr h5 (q0 _ (by omega)) (q0 _ (by omega))⟩, I_tp_fr h6 (fun a _ => q0 a (by omega)) (qM 11 (by decide)), I_sh_fr h7 (fun a _ => q0 a (by omega)), I_sl_fr h8 (fun a _ => q0 a (by omega)), ⟨⟨0, by decide, by rw [b2, upd_s], by rw [eB, a1, upd_s]⟩, by rw [q0 _ (by omega), q0 (B + 81 + 25) (by omega)]; exact h9.2⟩⟩
  rw [b1]
  exact ST_fr (ST_X hst sx (by omega) (by omega)) (fun a _ _ _ => q0 a (by omega)) qt
theorem INV_text {S S1 : Sx} {im im1 im2 : Mem} {B m n7 : Nat} {g : Nat → Int32} (h : INV S im B) (hfr : ∀ q, S.2.1 q < 15 → q < S.1) (st1 : ST S1 im1 (B + 1) (B + 107) g m n7) (h2 : inR 0 9999 (g 2)) (h46 : im1 (B + 46) 1 = nI 0) (hS : S1.1 = S.1 ∨ S1.1 = S.1 + 3) (eS : ∀ a, a < S.1 → S1.2.1 a = S.2.1 a ∧ S1.2.2.1 a = S.2.2.1 a ∧ (a ≠ B + 1 + 3 → S1.2.2.2 a = S.2.2.2 a)) (a1 : ∀ a, a < S.1 → a ≠ B + 1 → a ≠ B + 1 + 4 → a ≠ B + 46 → a ≠ B + 48 → im1 a = im a) (b1 : im2 (B + 81 + 1) = g) (b2 : im2 (B + 81) 11 = nI 0) (b3 : ∀ j, j < 11 ∨ 24 < j → im2 (B + 81) j = im1 (B + 81) j) (b4 : ∀ c, c ≠ B + 81 → c ≠ B + 81 + 1 → c ≠ B + 81 + 12 → c ≠ B + 81 + 13 → c ≠ B + 81 + 14 → im2 c = im1 c) : INV S1 im2 B := by
  obtain ⟨⟨hC, hM, i0, hi0⟩, -, h3, ⟨h4, h5⟩, h6, h7, h8, h9⟩ := h
  have q : ∀ a, a < S.1 → a ≠ B + 1 → a ≠ B + 1 + 4 → a ≠ B + 46 → a ≠ B + 48 → a ≠ B + 81 → a ≠ B + 81 + 1 → a ≠ B + 81 + 12 → a ≠ B + 81 + 13 → a ≠ B + 81 + 14 → im2 a = im a := fun a p0 p1 p2 p3 p4 q1 q2 q3 q4 q5 => (b4 a q1 q2 q3 q4 q5).trans (a1 a p0 p1 p2 p3 p4)
  have q0 : ∀ a, (a = B ∨ (B + 16 ≤ a ∧ a < B + 31) ∨ a = B + 47 ∨ (B + 49 ≤ a ∧ a ≤ B + 80) ∨ a = B + 83 ∨ (B + 90 ≤ a ∧ a ≤ B + 92) ∨ (B + 98 ≤ a ∧ a ≤ B + 106)) → im2 a = im a := fun a p => q a (by omega) (by omega) (by omega) (by omega) (by omega) (by omega) (by omega) (by omega) (by omega) (by omega)
  have qM : ∀ j, j < 11 ∨ 24 < j → im2 (B + 81) j = im (B + 81) j := fun j hj => by rw [b3 j hj, a1 _ (by omega) (by omega) (by omega) (by omega) (by omega)]
  have hB := q0 B (by omega)
  refine ⟨⟨CL_a hC (fun a p1 p2 => ⟨(eS a (by omega)).1, (eS a (by omega)).2.1⟩) (fun a p1 p2 p3 => (eS a (by omega)).2.2 (by omega)), ML_a hM (fun a p1 p2 => ⟨(eS a (by omega)).1, (eS a (by omega)).2.1⟩) ((eS _ (by omega)).2.2 (by omega)), ?_⟩, ⟨⟨m, n7, by rw [b1]; exact ST_fr st1 (fun a p1 p2 _ => b4 a (by omega) (by omega) (by omega) (by omega) (by omega)) (fun a p1 _ => b4 a (by omega) (by omega) (by omega) (by omega) (by omega))⟩, by rw [b1]; exact h2⟩, ?_, ⟨by rw [qM 4 (by omega)]; exact h4, KyOk_fr h5 (q0 _ (by omega)) (q0 _ (by omega))⟩, ⟨⟨0, by decide, b2, by rw [b4 _ (by omega) (by omega) (by omega) (by omega) (by omega)]; exact h46⟩, by rw [q0 _ (by omega), q0 (B + 81 + 9) (by omega)]; exact h6.2⟩, I_sh_fr h7 (fun a _ => q0 a (by omega)), I_sl_fr h8 (fun a _ => q0 a (by omega)), I_wt_fr h9 (fun a _ => q0 a (by omega)) (qM 37 (by omega)) (by rw [hB])⟩
  · rcases hS with e | e
    · exact ⟨i0, by rw [e]; exact hi0⟩
    · exact ⟨i0 + 1, by omega⟩
  · refine ⟨by rw [hB, qM 3 (by omega)]; exact h3.1, fun e3 => ?_⟩
    rw [qM 3 (by omega)] at e3
    obtain ⟨⟨n, n7', s⟩, h9'⟩ := h3.2 e3
    rw [q0 (B + 81 + 2) (by omega)]
    exact ⟨⟨n, n7', ST_grow s hfr (fun a p1 p2 => ⟨(eS a p2).1, (eS a p2).2.1, (eS a p2).2.2 (by omega)⟩) ((eS _ (by omega)).2.2 (by omega)) (fun a p1 p2 => q0 a (by omega)) (fun a p1 p2 => q a p2 (by omega) (by omega) (by omega) (by omega) (by omega) (by omega) (by omega) (by omega) (by omega))⟩, h9'⟩
section LW
variable {E : Ex} {κ : Kx} {ret : Option FieldType} {d Rc Rs : Nat} {nm : String} {b n i B c s : Nat} {xs : Nat → Int32} {S : Sx} {im : Mem}
set_option maxRecDepth 100000 in
set_option maxHeartbeats 4000000 in
theorem lw_keep (C : Cx E κ cL_law 4 RL ret d Rc Rs nm) (hX : va_X b n xs κ.2.2.2.2.1 E.2.2.1) (hb : b < E.2.1) (hn : n < 2 ^ 31) (hi : i + 5 < n) (hd : 150 ≤ d) (hcl : c + 3 ≤ Rc) (hsl : s + 200 ≤ Rs) (hI : INV S im B) (nx : Nx E κ b B i c s) : V E κ 4 c s 1403 [some (.ref b), some (.ref B), some (.ref (B + 81)), some (.int (nI i))] [] S im := by
  have hI0 := hI
  obtain ⟨⟨hC, hM, i0, hi0⟩, ⟨⟨m, n7, hst⟩, h02⟩, h3, ⟨hid, hky⟩, ⟨⟨T, hT, hTm, hTc⟩, hrow⟩, h7, h8, ⟨⟨wt, hw, hwm, hwc⟩, hwr⟩⟩ := hI0
  have hok := ST_MOk hst
  refine z_aload_n (pc := 1403) C dL_law_1403 rfl ?_
  refine kL_175 (pc := 1404) C dL_law_1404 (c6_keep κ.2.1 E S im B hC (B + 107) (Nat.le_refl _) (im (B + 81 + 1)) m n7 hst) (cl_K hC) (by omega) (Nat.le_of_ble_eq_true rfl) (by omega) (by omega) (fun v1 S1 im1 h1 => ?_)
  obtain ⟨rfl, sx, st1, a1, a2⟩ := h1
  have hM1 := ML_X hM sx (by omega)
  refine z_aload_n (pc := 1407) C dL_law_1407 rfl ?_
  refine kL_178 (pc := 1408) C dL_law_1408 (m7_keep κ.2.1 E S1 im1 (B + 81) hM1 m n7 (im (B + 81 + 1)) (a2 _ (by omega) (by omega)) hok) (ml_K hM1) (by omega) (Nat.le_of_ble_eq_true rfl) (by omega) (by omega) (fun v2 S2 im2 h2 => ?_)
  obtain ⟨rfl, rfl, b1, b2, b3⟩ := h2
  refine z_icmp_eqT (pc := 1411) C 1452 dL_law_1411 (by decide) rfl ?_
  exact z_widen (by omega) (by omega) (nx _ _ (INV_keep hI hst h02 sx st1 a1 a2 b1 b2 b3))
set_option maxRecDepth 100000 in
set_option maxHeartbeats 4000000 in
theorem lw_back (C : Cx E κ cL_law 4 RL ret d Rc Rs nm) (hX : va_X b n xs κ.2.2.2.2.1 E.2.2.1) (hb : b < E.2.1) (hn : n < 2 ^ 31) (hi : i + 5 < n) (hd : 150 ≤ d) (hcl : c + 3 ≤ Rc) (hsl : s + 200 ≤ Rs) (hI : INV S im B) (nx : Nx E κ b B i c s) : V E κ 4 c s 1416 [some (.ref b), some (.ref B), some (.ref (B + 81)), some (.int (nI i))] [] S im := by
  have hI0 := hI
  obtain ⟨⟨hC, hM, i0, hi0⟩, ⟨⟨m, n7, hst⟩, h02⟩, h3, ⟨hid, hky⟩, ⟨⟨T, hT, hTm, hTc⟩, hrow⟩, h7, h8, ⟨⟨wt, hw, hwm, hwc⟩, hwr⟩⟩ := hI0
  have hok := ST_MOk hst
  obtain ⟨m0, m7, himg⟩ := img_ex h3
  refine z_aload_n (pc := 1416) C dL_law_1416 rfl ?_
  refine kL_179 (pc := 1417) C dL_law_1417 (c6_back κ.2.1 E S im B hC (B + 107) (Nat.le_refl _) (im (B + 81 + 2)) m0 m7 (fun e => (himg e).1)) (cl_K hC) (by omega) (Nat.le_of_ble_eq_true rfl) (by omega) (by omega) (fun v1 S1 im1 h1 => ?_)
  obtain ⟨rfl, sx, a1, a2, a3⟩ := h1
  have hM1 := ML_X hM sx (by omega)
  refine z_aload_n (pc := 1420) C dL_law_1420 rfl ?_
  refine kL_182 (pc := 1421) C dL_law_1421 (m7_back κ.2.1 E S1 im1 (B + 81) hM1 ) (ml_K hM1) (by omega) (Nat.le_of_ble_eq_true rfl) (by omega) (by omega) (fun v2 S2 im2 h2 => ?_)
  obtain ⟨rfl, rfl, b1, b2⟩ := h2
  rw [a3 (B + 81) (by omega), a3 (B + 81 + 1) (by omega), a3 (B + 81 + 2) (by omega)] at b1
  refine z_icmp_eqT (pc := 1424) C 1452 dL_law_1424 (by decide) (by rw [a3 (B + 81) (by omega), a3 (B + 81 + 2) (by omega), h3.1]) ?_
  exact z_widen (by omega) (by omega) (nx _ _ (INV_back hI himg sx a1 a2 a3 b1 b2))
set_option maxRecDepth 100000 in
set_option maxHeartbeats 4000000 in
theorem lw_check (C : Cx E κ cL_law 4 RL ret d Rc Rs nm) (hX : va_X b n xs κ.2.2.2.2.1 E.2.2.1) (hb : b < E.2.1) (hn : n < 2 ^ 31) (hi : i + 5 < n) (hd : 150 ≤ d) (hcl : c + 3 ≤ Rc) (hsl : s + 200 ≤ Rs) (hI : INV S im B) (nx : Nx E κ b B i c s) : V E κ 4 c s 1380 [some (.ref b), some (.ref B), some (.ref (B + 81)), some (.int (nI i))] [] S im := by
  have hI0 := hI
  obtain ⟨⟨hC, hM, i0, hi0⟩, ⟨⟨m, n7, hst⟩, h02⟩, h3, ⟨hid, hky⟩, ⟨⟨T, hT, hTm, hTc⟩, hrow⟩, h7, h8, ⟨⟨wt, hw, hwm, hwc⟩, hwr⟩⟩ := hI0
  have hok := ST_MOk hst
  obtain ⟨m0, m7, himg0⟩ := img_ex h3
  have himg : im B 3 ≠ 0 → ST S im (B + 16) (B + 107) (cpA (im (B + 81 + 2)) (im (B + 81 + 1))) m0 m7 ∧ inR 0 9999 (cpA (im (B + 81 + 2)) (im (B + 81 + 1)) 2) := fun e => ⟨ST_eq (himg0 e).1 (cpA_e _ _), by rw [cpA_e _ _ 2 (by decide)]; exact (himg0 e).2⟩
  refine z_aload_n (pc := 1380) C dL_law_1380 rfl ?_
  refine z_aload_n (pc := 1381) C dL_law_1381 rfl ?_
  refine z_iload_n (pc := 1382) C dL_law_1382 rfl ?_
  refine z_iconstN (pc := 1383) C 1 dL_law_1383 ?_
  refine z_iaddN (pc := 1384) C dL_law_1384 ?_
  refine z_scx (pc := 1385) C hX hb dL_law_1385 (by omega) hn ?_
  refine kL_171 (pc := 1386) C dL_law_1386 (c6_check κ.2.1 E S im B hC (B + 107) (Nat.le_refl _) wt hw hwc (im (B + 81 + 25)) (fun j _ => congrFun hwr j) (cpA (im (B + 81 + 2)) (im (B + 81 + 1))) m0 m7 himg (xs (i + 1))) (cl_K hC) (by omega) (Nat.le_of_ble_eq_true rfl) (by omega) (by omega) (fun v1 S1 im1 h1 => ?_)
  obtain ⟨rfl, sx, a1, a2⟩ := h1
  have hM1 := ML_X hM sx (by omega)
  have e0 := a2 (B + 81) (by omega) (by omega) (by omega)
  have e25 := a2 (B + 81 + 25) (by omega) (by omega) (by omega)
  refine z_aload_n (pc := 1389) C dL_law_1389 rfl ?_
  refine z_aload_n (pc := 1390) C dL_law_1390 rfl ?_
  refine z_iload_n (pc := 1391) C dL_law_1391 rfl ?_
  refine z_iconstN (pc := 1392) C 1 dL_law_1392 ?_
  refine z_iaddN (pc := 1393) C dL_law_1393 ?_
  refine z_scx (pc := 1394) C hX hb dL_law_1394 (by omega) hn ?_
  refine kL_174 (pc := 1395) C dL_law_1395 (m7_check κ.2.1 E S1 im1 (B + 81) hM1 (im (B + 81 + 1)) (a2 _ (by omega) (by omega) (by omega)) (by rw [e0]; exact hid) wt hw (by rw [e0]; exact hwm) (cpA (im (B + 81 + 2)) (im (B + 81 + 1))) (by rw [a2 (B + 81 + 2) (by omega) (by omega) (by omega)]) m0 m7 (fun e => ST_MOk (himg (by rw [h3.1, ← e0]; exact e)).1) (xs (i + 1))) (ml_K hM1) (by omega) (Nat.le_of_ble_eq_true rfl) (by omega) (by omega) (fun v2 S2 im2 h2 => ?_)
  obtain ⟨rfl, rfl, b1, b2, b3⟩ := h2
  refine z_icmp_eqT (pc := 1398) C 1452 dL_law_1398 (by decide) (by rw [e0, e25, h3.1]) ?_
  exact z_widen (by omega) (by omega) (nx _ _ (INV_check hI sx a1 a2 b1 b2 b3))
set_option maxRecDepth 100000 in
set_option maxHeartbeats 4000000 in
theorem lw_text (C : Cx E κ cL_law 4 RL ret d Rc Rs nm) (hX : va_X b n xs κ.2.2.2.2.1 E.2.2.1) (hb : b < E.2.1) (hn : n < 2 ^ 31) (hi : i + 5 < n) (hd : 150 ≤ d) (hcl : c + 3 ≤ Rc) (hsl : s + 200 ≤ Rs) (hI : INV S im B) (nx : Nx E κ b B i c s) : V E κ 4 c s 951 [some (.ref b), some (.ref B), some (.ref (B + 81)), some (.int (nI i))] [] S im := by
  have hI0 := hI
  obtain ⟨⟨hC, hM, i0, hi0⟩, ⟨⟨m, n7, hst⟩, h02⟩, h3, ⟨hid, hky⟩, ⟨⟨T, hT, hTm, hTc⟩, hrow⟩, h7, h8, ⟨⟨wt, hw, hwm, hwc⟩, hwr⟩⟩ := hI0
  have hok := ST_MOk hst
  refine z_fresh (fun hfresh => ?_)
  refine z_aload_n (pc := 951) C dL_law_951 rfl ?_
  refine kL_118 (pc := 952) C dL_law_952 (c6_text κ.2.1 E S im B hC (B + 107) (Nat.le_refl _) (im (B + 81 + 1)) m n7 hst T hT hTc i0 hi0) (cl_K hC) (by omega) (Nat.le_of_ble_eq_true rfl) (by omega) (by omega) (fun v1 S1 im1 h1 => ?_)
  obtain ⟨rfl, ⟨n7', st1⟩, h46, hS, eS, a1⟩ := h1
  have hM1 : ML S1 (B + 81) := ML_a hM (fun a p1 p2 => ⟨(eS a (by omega)).1, (eS a (by omega)).2.1⟩) ((eS _ (by omega)).2.2 (by omega))
  have e0 := a1 (B + 81) (by omega) (by omega) (by omega) (by omega) (by omega)
  have e9 := a1 (B + 81 + 9) (by omega) (by omega) (by omega) (by omega) (by omega)
  refine z_aload_n (pc := 955) C dL_law_955 rfl ?_
  refine kL_121 (pc := 956) C dL_law_956 (m7_text κ.2.1 E S1 im1 (B + 81) hM1 m n7 (im (B + 81 + 1)) (a1 _ (by omega) (by omega) (by omega) (by omega) (by omega)) hok T hT (by rw [e0]; exact hTm) (KyOk_fr hky (a1 _ (by omega) (by omega) (by omega) (by omega) (by omega)) (a1 _ (by omega) (by omega) (by omega) (by omega) (by omega)))) (ml_K hM1) (by omega) (Nat.le_of_ble_eq_true rfl) (by omega) (by omega) (fun v2 S2 im2 h2 => ?_)
  rw [e9, ← hrow] at h2
  obtain ⟨rfl, rfl, b1, b2, b3, b4⟩ := h2
  refine z_icmp_eqT (pc := 959) C 1452 dL_law_959 (by decide) rfl ?_
  exact z_widen (by omega) (by omega) (nx _ _ (INV_text hI hfresh st1 (by rw [ft_lo (by decide) (by decide)]; exact h02) h46 hS eS a1 b1 b2 b3 b4))
end LW
