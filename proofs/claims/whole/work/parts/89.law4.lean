/-! the law: mark, copy, lay -/
theorem mk_inv {x so sz p w : Int32} (hso : so = -1 ∨ so = 0 ∨ so = 1) (h : r_mark x so sz p w = nI 1) : isSh x ∧ (nI 0 ≤ p ∧ p ≤ sz - nI 1) ∧ (so = 0 ∨ w = -1000000005 ∨ (-99999 ≤ w ∧ w ≤ 99999)) := by
  unfold r_mark at h
  by_cases c1 : isSh x
  · rw [if_pos c1] at h
    by_cases c2 : 0 ≤ so
    · rw [if_pos c2] at h
      by_cases c3 : nI 0 ≤ p ∧ p ≤ sz - nI 1
      · rw [if_pos c3] at h
        refine ⟨c1, c3, ?_⟩
        by_cases c4 : so = 0
        · exact Or.inl c4
        · rw [if_neg c4] at h
          by_cases c5 : so = nI 1
          · rw [if_pos c5] at h
            by_cases c6 : w = -1000000005
            · exact Or.inr (Or.inl c6)
            · rw [if_neg c6] at h
              by_cases c7 : -99999 ≤ w ∧ w ≤ 99999
              · exact Or.inr (Or.inr c7)
              · rw [if_neg c7] at h; exact absurd h (by decide)
          · rcases hso with e | e | e
            · rw [e] at c2; exact absurd c2 (by decide)
            · exact absurd e c4
            · exact absurd e c5
      · rw [if_neg c3] at h; exact absurd h (by decide)
    · rw [if_neg c2] at h; exact absurd h (by decide)
  · rw [if_neg c1] at h; exact absurd h (by decide)
theorem sht_R (w : Int32) : inR (-99999) 99999 w.toInt16.toInt32 := by
  unfold inR
  rw [Int16.toInt_toInt32]
  have h1 := Int16.le_toInt w.toInt16
  have h2 := Int16.toInt_lt w.toInt16
  omega
theorem mk_v {so w : Int32} (h : so = 0 ∨ w = -1000000005 ∨ (-99999 ≤ w ∧ w ≤ 99999)) : (if so = 0 then w.toInt16.toInt32 else w) = -1000000005 ∨ inR (-99999) 99999 (if so = 0 then w.toInt16.toInt32 else w) := by
  by_cases c : so = 0
  · rw [if_pos c]; exact Or.inr (sht_R w)
  · rw [if_neg c]
    rcases h with h | h | ⟨h1, h2⟩
    · exact absurd h c
    · exact Or.inl h
    · rw [Int32.le_iff_toInt_le] at h1 h2
      exact Or.inr ⟨h1, h2⟩
theorem mark_fr {im im1 : Mem} {B : Nat} {x so sz p w : Int32} (hso : so = -1 ∨ so = 0 ∨ so = 1) (g1 : g_markC B im x so sz p w im1) : ∀ a, a < B + 53 ∨ B + 61 ≤ a → im1 a = im a := by
  intro a ha
  unfold g_markC at g1
  split at g1
  · next h =>
    obtain ⟨s, -, hs, rfl⟩ := (rng (by decide) (by decide)).mp (mk_inv hso h).1
    rw [nI_clamp (by omega)] at g1
    rw [g1, up2_n _ _ _ (by omega)]
  · rw [g1]
theorem INV_mark {S : Sx} {im im1 im2 : Mem} {B : Nat} {x p w : Int32} (h : INV S im B) (g1 : g_markC B im x (im (B + 81 + 17) x.toNatClampNeg) (im (B + 81 + 18) x.toNatClampNeg) p w im1) (g2 : g_mark (B + 81) im1 x p w im2) (e17 : im1 (B + 81 + 17) = im (B + 81 + 17)) (e18 : im1 (B + 81 + 18) = im (B + 81 + 18)) : INV S im2 B := by
  unfold g_mark at g2
  rw [e17, e18] at g2
  unfold g_markC at g1
  by_cases c : r_mark x (im (B + 81 + 17) x.toNatClampNeg) (im (B + 81 + 18) x.toNatClampNeg) p w = nI 1
  · rw [if_pos c] at g1 g2
    have hx4 : x.toNatClampNeg < 4 := by
      by_cases e : isSh x
      · obtain ⟨s, -, hs, rfl⟩ := (rng (by decide) (by decide)).mp e
        rw [nI_clamp (by omega)]; omega
      · rw [r_mark, if_neg e] at c; exact absurd c (by decide)
    have o := h.2.2.2.2.2.1 x.toNatClampNeg hx4
    obtain ⟨cx, cp, cw⟩ := mk_inv o.2.2.1 c
    have hv := mk_v cw
    obtain ⟨z, hz, ez⟩ := o.2.1
    rw [ez] at cp
    obtain ⟨p0, hp0, rfl⟩ := (in_sz (by omega)).mp cp
    rw [nI_clamp (show p0 < 2 ^ 31 by omega)] at g1 g2
    generalize (if im (B + 81 + 17) x.toNatClampNeg = 0 then w.toInt16.toInt32 else w) = v at g1 g2 hv
    generalize x.toNatClampNeg = s at g1 g2 hx4
    have q : ∀ a, a ≠ B + 53 + 2 * s + 1 → a ≠ B + 81 + 19 → im2 a = im a := fun a q1 q2 => by rw [g2, up2_n _ _ _ q2, g1, up2_n _ _ _ q1]
    refine INV_sh h (fun a q1 q2 q3 q4 _ => q a (by omega) (by omega)) ?_
    intro s' hs'
    have o' := h.2.2.2.2.2.1 s' hs'
    rw [q (B + 81 + 17) (by omega) (by omega), q (B + 81 + 18) (by omega) (by omega), q (B + 53 + 2 * s') (by omega) (by omega)]
    have e19 : im1 (B + 81 + 19) = im (B + 81 + 19) := by rw [g1, up2_n _ _ _ (by omega)]
    by_cases e : s' = s
    · subst e
      have ce : ∀ j, im2 (B + 81 + 19) (24 * s' + j) = if j = p0 then v else im (B + 81 + 19) (24 * s' + j) := fun j => by
        rw [g2, up2_at, e19]
        by_cases ej : j = p0
        · rw [if_pos ej, if_pos (by omega)]
        · rw [if_neg ej, if_neg (by omega)]
      refine ⟨⟨o'.1.1, o'.1.2.1, fun j hj => ?_⟩, o'.2.1, o'.2.2.1, fun j hj => ?_⟩
      · rw [ce, g2, up2_n _ _ _ (by omega), g1, up2_at, o'.1.2.2 j hj]
      · rw [ce]
        by_cases ej : j = p0
        · rw [if_pos ej]; exact hv
        · rw [if_neg ej]; exact o'.2.2.2 j hj
    · have ce : ∀ j, j < 24 → im2 (B + 81 + 19) (24 * s' + j) = im (B + 81 + 19) (24 * s' + j) := fun j hj => by rw [g2, up2_at, if_neg (by omega), e19]
      rw [q (B + 53 + 2 * s' + 1) (by omega) (by omega)]
      exact ⟨⟨o'.1.1, o'.1.2.1, fun j hj => by rw [ce j hj]; exact o'.1.2.2 j hj⟩, o'.2.1, o'.2.2.1, fun j hj => by rw [ce j hj]; exact o'.2.2.2 j hj⟩
  · rw [if_neg c] at g1 g2
    rw [g2, g1]
    exact h
theorem INV_cp {S : Sx} {im im1 im2 : Mem} {B x p y q w : Nat} (h : INV S im B) (hx : x < 4) (hy : y < 4) (hp : p + w ≤ 24) (hq : q + w ≤ 24) (g1 : im1 = va_up im (B + 53 + 2 * y + 1) (va_cpy (im (B + 53 + 2 * x + 1)) (im (B + 53 + 2 * y + 1)) p q w)) (g2 : cpC (B + 81) im1 x p y q w im2) : INV S im2 B := by
  obtain ⟨b1, b2⟩ := g2
  have a1 : ∀ a, a ≠ B + 53 + 2 * y + 1 → im1 a = im a := fun a ha => by rw [g1, up_n _ _ ha]
  have a2 : im1 (B + 53 + 2 * y + 1) = va_cpy (im (B + 53 + 2 * x + 1)) (im (B + 53 + 2 * y + 1)) p q w := by rw [g1, up_s]
  have ox := h.2.2.2.2.2.1 x hx
  refine INV_sh h (fun a q1 q2 q3 q4 q5 => (b2 a (by omega) (by omega)).trans (a1 a (by omega))) ?_
  intro s' hs'
  have o' := h.2.2.2.2.2.1 s' hs'
  have e19 := a1 (B + 81 + 19) (by omega)
  rw [b2 (B + 81 + 17) (by omega) (by omega), b2 (B + 81 + 18) (by omega) (by omega), b2 (B + 53 + 2 * s') (by omega) (by omega), b2 (B + 53 + 2 * s' + 1) (by omega) (by omega), a1 (B + 81 + 17) (by omega), a1 (B + 81 + 18) (by omega), a1 (B + 53 + 2 * s') (by omega)]
  by_cases e : s' = y
  · subst e
    rw [a2]
    have ce : ∀ j, im2 (B + 81 + 19) (24 * s' + j) = if q ≤ j ∧ j < q + w then im (B + 81 + 19) (24 * x + (p + (j - q))) else im (B + 81 + 19) (24 * s' + j) := fun j => by
      rw [b1, e19]
      by_cases c : q ≤ j ∧ j < q + w
      · rw [if_pos c, if_pos (by omega), show 24 * x + p + (24 * s' + j - (24 * s' + q)) = 24 * x + (p + (j - q)) by omega]
      · rw [if_neg c, if_neg (by omega)]
    refine ⟨⟨o'.1.1, o'.1.2.1, fun j hj => ?_⟩, o'.2.1, o'.2.2.1, fun j hj => ?_⟩
    · rw [ce]
      unfold va_cpy
      by_cases c : q ≤ j ∧ j < q + w
      · rw [if_pos c, if_pos c]; exact ox.1.2.2 _ (by omega)
      · rw [if_neg c, if_neg c]; exact o'.1.2.2 j hj
    · rw [ce]
      by_cases c : q ≤ j ∧ j < q + w
      · rw [if_pos c]; exact ox.2.2.2 _ (by omega)
      · rw [if_neg c]; exact o'.2.2.2 j hj
  · have ce : ∀ j, j < 24 → im2 (B + 81 + 19) (24 * s' + j) = im (B + 81 + 19) (24 * s' + j) := fun j hj => by rw [b1, if_neg (by omega), e19]
    rw [a1 (B + 53 + 2 * s' + 1) (by omega)]
    exact ⟨⟨o'.1.1, o'.1.2.1, fun j hj => by rw [ce j hj]; exact o'.1.2.2 j hj⟩, o'.2.1, o'.2.2.1, fun j hj => by rw [ce j hj]; exact o'.2.2.2 j hj⟩
theorem sub_le_nI {z : Nat} (hz : z ≤ 24) {p w : Int32} (hp : ¬ p < 0) (hw : ¬ w < 0) (h : p ≤ nI z - w) : p.toNatClampNeg + w.toNatClampNeg ≤ z := by
  obtain ⟨p0, hp0, rfl⟩ := nI_of hp
  obtain ⟨w0, hw0, rfl⟩ := nI_of hw
  rw [nI_clamp hp0, nI_clamp hw0]
  rw [Int32.le_iff_toInt_le, sub_toI (x := nI z) (y := nI w0) (a := 0) (b := 24) (c := 0) (d := 2147483647) ⟨by rw [nI_toInt (by omega)]; omega, by rw [nI_toInt (by omega)]; omega⟩ ⟨by rw [nI_toInt hw0]; omega, by rw [nI_toInt hw0]; omega⟩ (by decide) (by decide), nI_toInt hp0, nI_toInt hw0, nI_toInt (by omega)] at h
  omega
theorem copy_fr {im im1 : Mem} {B : Nat} {x p y q w sx sy zx zy : Int32} (g1 : g_copyC B im x p y q w sx sy zx zy im1) : ∀ a, a < B + 53 ∨ B + 61 ≤ a → im1 a = im a := by
  intro a ha
  unfold g_copyC at g1
  by_cases c1 : isSh x
  · rw [if_pos c1] at g1
    by_cases c2 : isSh y
    · rw [if_pos c2] at g1
      have hy4 : y.toNatClampNeg < 4 := by
        obtain ⟨s, -, hs, rfl⟩ := (rng (by decide) (by decide)).mp c2
        rw [nI_clamp (by omega)]; omega
      repeat' (first | (rw [g1]; done) | (rw [g1]; exact up_n _ _ (by omega)) | split at g1)
    · rw [if_neg c2] at g1; rw [g1]
  · rw [if_neg c1] at g1; rw [g1]
theorem INV_copy {S : Sx} {im im1 im2 : Mem} {B : Nat} {x p y q w : Int32} (h : INV S im B) (g1 : g_copyC B im x p y q w (im (B + 81 + 17) x.toNatClampNeg) (im (B + 81 + 17) y.toNatClampNeg) (im (B + 81 + 18) x.toNatClampNeg) (im (B + 81 + 18) y.toNatClampNeg) im1) (g2 : g_copy (B + 81) im1 x p y q w (im (B + 81 + 17) x.toNatClampNeg) (im (B + 81 + 17) y.toNatClampNeg) (im (B + 81 + 18) x.toNatClampNeg) (im (B + 81 + 18) y.toNatClampNeg) im2) : INV S im2 B := by
  unfold g_copyC at g1
  unfold g_copy at g2
  have none : im1 = im → im2 = im1 → INV S im2 B := fun e1 e2 => by rw [e2, e1]; exact h
  by_cases c1 : isSh x
  · by_cases c2 : isSh y
    · rw [if_pos c1, if_pos c2] at g1 g2
      have hx4 : x.toNatClampNeg < 4 := by
        obtain ⟨s, -, hs, rfl⟩ := (rng (by decide) (by decide)).mp c1
        rw [nI_clamp (by omega)]; omega
      have hy4 : y.toNatClampNeg < 4 := by
        obtain ⟨s, -, hs, rfl⟩ := (rng (by decide) (by decide)).mp c2
        rw [nI_clamp (by omega)]; omega
      obtain ⟨zx, hzx, ezx⟩ := (h.2.2.2.2.2.1 _ hx4).2.1
      obtain ⟨zy, hzy, ezy⟩ := (h.2.2.2.2.2.1 _ hy4).2.1
      rw [ezx, ezy] at g1 g2
      by_cases c3 : im (B + 81 + 17) x.toNatClampNeg < 0
      · rw [if_pos c3] at g1 g2; exact none g1 g2
      rw [if_neg c3] at g1 g2
      by_cases c4 : 0 ≤ im (B + 81 + 17) y.toNatClampNeg
      · rw [if_pos c4] at g1 g2
        by_cases c5 : im (B + 81 + 17) x.toNatClampNeg = im (B + 81 + 17) y.toNatClampNeg
        · rw [if_pos c5] at g1 g2
          by_cases c6 : p < 0
          · rw [if_pos c6] at g1 g2; exact none g1 g2
          rw [if_neg c6] at g1 g2
          by_cases c7 : q < 0
          · rw [if_pos c7] at g1 g2; exact none g1 g2
          rw [if_neg c7] at g1 g2
          by_cases c8 : w < 0
          · rw [if_pos c8] at g1 g2; exact none g1 g2
          rw [if_neg c8] at g1 g2
          by_cases c9 : nI zx - w < p
          · rw [if_pos c9] at g1 g2; exact none g1 g2
          rw [if_neg c9] at g1 g2
          by_cases c10 : q ≤ nI zy - w
          · rw [if_pos c10] at g1 g2
            have k1 := sub_le_nI hzx c6 c8 (by rw [Int32.le_iff_toInt_le]; rw [Int32.lt_iff_toInt_lt] at c9; omega)
            have k2 := sub_le_nI hzy c7 c8 c10
            exact INV_cp h hx4 hy4 (by omega) (by omega) g1 g2
          · rw [if_neg c10] at g1 g2; exact none g1 g2
        · rw [if_neg c5] at g1 g2; exact none g1 g2
      · rw [if_neg c4] at g1 g2; exact none g1 g2
    · rw [if_pos c1, if_neg c2] at g1 g2; exact none g1 g2
  · rw [if_neg c1] at g1 g2; exact none g1 g2
/-- only slots have changed -/
theorem INV_sl {S : Sx} {im im2 : Mem} {B : Nat} (h : INV S im B) (q : ∀ a, ¬ (B + 61 ≤ a ∧ a < B + 81) → a ≠ B + 101 → a ≠ B + 102 → a ≠ B + 103 → a ≠ B + 104 → im2 a = im a) (h8 : I_sl im2 B) : INV S im2 B := by
  have hB := q B (by omega) (by omega) (by omega) (by omega) (by omega)
  have hM := q (B + 81) (by omega) (by omega) (by omega) (by omega) (by omega)
  exact INV_q h (fun a _ => q a (by omega) (by omega) (by omega) (by omega) (by omega)) (by rw [hB]) (by rw [hM]) (by rw [hM]) (I_tp_fr h.2.2.2.2.1 (fun a _ => q a (by omega) (by omega) (by omega) (by omega) (by omega)) (by rw [hM])) (I_sh_fr h.2.2.2.2.2.1 (fun a _ => q a (by omega) (by omega) (by omega) (by omega) (by omega))) h8 (I_wt_fr h.2.2.2.2.2.2.2 (fun a _ => q a (by omega) (by omega) (by omega) (by omega) (by omega)) (by rw [hM]) (by rw [hB]))
def SL1 (im : Mem) (B s : Nat) (th sa sb : Int32) (hc : Nat → Int32) : Prop := im (B + 61 + 4 * s) 0 = th ∧ (th = nI 1 → im (B + 61 + 4 * s + 1) 0 = sa ∧ inR 0 5 sa ∧ inR 0 99 (im (B + 61 + 4 * s + 1) 1) ∧ sb = s_worth sa (im (B + 61 + 4 * s + 1) 1)) ∧ (th = nI 2 → im (B + 61 + 4 * s + 2) 1 = sa ∧ (∃ z, z ≤ 24 ∧ sa = nI z) ∧ ∀ j, j < 24 → im (B + 61 + 4 * s + 2 + 1) j = hc j) ∧ (th = nI 3 → im (B + 61 + 4 * s) 3 = sa)
theorem INV_ly {S : Sx} {im im1 im2 : Mem} {B s : Nat} {t A b : Int32} {row : Nat → Int32} (h : INV S im B) (hs : s < 5) (q1 : ∀ a, ¬ (B + 61 + 4 * s ≤ a ∧ a < B + 61 + 4 * s + 4) → im1 a = im a) (g2 : lyC (B + 81) im1 s t A b row im2) (hr : ∀ s', s' < 5 → s' ≠ s → ∀ j, j < 24 → row (24 * s' + j) = im (B + 81 + 23) (24 * s' + j)) (n : SL1 im1 B s t A b (fun j => row (24 * s + j))) : INV S im2 B := by
  obtain ⟨b1, b2, b3, b4, b5⟩ := g2
  refine INV_sl h (fun a p1 p2 p3 p4 p5 => (b5 a (by omega) (by omega) (by omega) (by omega)).trans (q1 a (by omega))) ?_
  intro s' hs'
  have o := h.2.2.2.2.2.2.1 s' hs'
  rw [b1, b2, b3, b4, q1 (B + 81 + 20) (by omega), q1 (B + 81 + 21) (by omega), q1 (B + 81 + 22) (by omega), b5 (B + 61 + 4 * s') (by omega) (by omega) (by omega) (by omega), b5 (B + 61 + 4 * s' + 1) (by omega) (by omega) (by omega) (by omega), b5 (B + 61 + 4 * s' + 2) (by omega) (by omega) (by omega) (by omega), b5 (B + 61 + 4 * s' + 2 + 1) (by omega) (by omega) (by omega) (by omega)]
  by_cases e : s' = s
  · subst e
    rw [upd_s, upd_s, upd_s]
    exact n
  · rw [upd_n _ _ e, upd_n _ _ e, upd_n _ _ e, q1 (B + 61 + 4 * s') (by omega), q1 (B + 61 + 4 * s' + 1) (by omega), q1 (B + 61 + 4 * s' + 2) (by omega), q1 (B + 61 + 4 * s' + 2 + 1) (by omega)]
    exact ⟨o.1, o.2.1, fun h2 => ⟨(o.2.2.1 h2).1, (o.2.2.1 h2).2.1, fun j hj => by rw [hr s' hs' e j hj]; exact (o.2.2.1 h2).2.2 j hj⟩, o.2.2.2⟩
theorem lay_fr {im im1 : Mem} {B n : Nat} {x k y so : Int32} (g1 : g_layC B im n x k y so im1) : ∀ a, a < B + 61 ∨ B + 81 ≤ a → im1 a = im a := by
  intro a ha
  unfold g_layC at g1
  by_cases c1 : isSl x
  · rw [if_pos c1] at g1
    have hx5 : x.toNatClampNeg < 5 := by
      obtain ⟨s, -, hs, rfl⟩ := (rng (by decide) (by decide)).mp c1
      rw [nI_clamp (by omega)]; omega
    by_cases c2 : nI 0 ≤ k ∧ k ≤ nI 3
    · rw [if_pos c2] at g1
      by_cases c3 : k = nI 1
      · rw [if_pos c3] at g1
        by_cases c4 : lmp n y
        · rw [if_pos c4] at g1; exact g1.2.2 a (by omega) (by omega)
        · rw [if_neg c4] at g1; rw [g1]
      · rw [if_neg c3] at g1
        by_cases c4 : k = nI 2
        · rw [if_pos c4] at g1
          by_cases c5 : isSh y
          · rw [if_pos c5] at g1
            by_cases c6 : 0 ≤ so
            · rw [if_pos c6] at g1; exact g1.2.2.2 a (by omega) (by omega) (by omega)
            · rw [if_neg c6] at g1; rw [g1]
          · rw [if_neg c5] at g1; rw [g1]
        · rw [if_neg c4] at g1; rw [g1, up2_n _ _ _ (by omega), up2_n _ _ _ (by omega)]
    · rw [if_neg c2] at g1; rw [g1]
  · rw [if_neg c1] at g1; rw [g1]
theorem INV_lay {S : Sx} {im im1 im2 : Mem} {B n n7 : Nat} {x k y : Int32} (h : INV S im B) (hst : ST S im (B + 1) (B + 107) (im (B + 81 + 1)) n n7) (g1 : g_layC B im n x k y (im (B + 81 + 17) y.toNatClampNeg) im1) (g2 : g_lay (B + 81) im1 n (im (B + 81 + 1)) x k y im2) : INV S im2 B := by
  have fr := lay_fr g1
  unfold g_layC at g1
  unfold g_lay at g2
  rw [fr (B + 81 + 17) (by omega), fr (B + 81 + 18) (by omega), fr (B + 81 + 19) (by omega), fr (B + 81 + 23) (by omega)] at g2
  have none : im1 = im → im2 = im1 → INV S im2 B := fun e1 e2 => by rw [e2, e1]; exact h
  by_cases c1 : isSl x
  · rw [if_pos c1] at g1 g2
    have hx5 : x.toNatClampNeg < 5 := by
      obtain ⟨s, -, hs, rfl⟩ := (rng (by decide) (by decide)).mp c1
      rw [nI_clamp (by omega)]; omega
    generalize x.toNatClampNeg = s at g1 g2 hx5
    by_cases c2 : nI 0 ≤ k ∧ k ≤ nI 3
    · rw [if_pos c2] at g1 g2
      by_cases c3 : k = nI 1
      · rw [if_pos c3] at g1 g2
        by_cases c4 : lmp n y
        · rw [if_pos c4] at g1 g2
          have hn10 := hst.1.1.1
          obtain ⟨l0, hl0, rfl⟩ := (in_lamp hn10).mp c4
          rw [nI_clamp (by omega)] at g1 g2
          obtain ⟨a1, a2, a3⟩ := g1
          have rg := hst.2.2.2.2 l0 hl0
          have lk := hst.1.2.2 l0 hl0
          refine INV_ly h hx5 (fun a p => a3 a (by omega) (by omega)) g2 (fun s' _ _ j _ => rfl) ⟨by rw [a1, upd_s], fun _ => ⟨by rw [a2, if_pos (by decide), lk 0 (by decide)], rg.1, by rw [a2, if_pos (by decide), lk 1 (by decide)]; exact rg.2.1, by rw [a2, if_pos (by decide), lk 1 (by decide)]⟩, fun e => absurd (c3.symm.trans e) (by decide), fun e => absurd (c3.symm.trans e) (by decide)⟩
        · rw [if_neg c4] at g1 g2; exact none g1 g2
      · rw [if_neg c3] at g1 g2
        by_cases c4 : k = nI 2
        · rw [if_pos c4] at g1 g2
          by_cases c5 : isSh y
          · rw [if_pos c5] at g1 g2
            by_cases c6 : 0 ≤ im (B + 81 + 17) y.toNatClampNeg
            · rw [if_pos c6] at g1 g2
              have hy4 : y.toNatClampNeg < 4 := by
                obtain ⟨s, -, hs, rfl⟩ := (rng (by decide) (by decide)).mp c5
                rw [nI_clamp (by omega)]; omega
              generalize y.toNatClampNeg = s1 at g1 g2 hy4
              obtain ⟨a1, a2, a3, a4⟩ := g1
              have o := h.2.2.2.2.2.1 s1 hy4
              refine INV_ly h hx5 (fun a p => a4 a (by omega) (by omega) (by omega)) g2 (fun s' _ hne j hj => by unfold s_hc; rw [if_neg (by omega)]) ⟨by rw [a1, upd_s], fun e => absurd e c3, fun _ => ⟨by rw [a2, o.1.2.1], o.2.1, fun j hj => by unfold s_hc; dsimp only; rw [if_pos (by omega), a3 j hj, o.1.2.2 j hj, show 24 * s + j - 24 * s = j by omega]⟩, fun e => absurd (c4.symm.trans e) (by decide)⟩
            · rw [if_neg c6] at g1 g2; exact none g1 g2
          · rw [if_neg c5] at g1 g2; exact none g1 g2
        · rw [if_neg c4] at g1 g2
          refine INV_ly h hx5 (fun a p => by rw [g1, up2_n _ _ _ (by omega), up2_n _ _ _ (by omega)]) g2 (fun s' _ _ j _ => rfl) ⟨by rw [g1, up2_at, if_neg (by decide), up2_at, if_pos rfl], fun e => absurd e c3, fun e => absurd e c4, fun _ => by rw [g1, up2_at, if_pos rfl]⟩
    · rw [if_neg c2] at g1 g2; exact none g1 g2
  · rw [if_neg c1] at g1 g2; exact none g1 g2
section LW
variable {E : Ex} {κ : Kx} {ret : Option FieldType} {d Rc Rs : Nat} {nm : String} {b n i B c s : Nat} {xs : Nat → Int32} {S : Sx} {im : Mem}
set_option maxRecDepth 100000 in
set_option maxHeartbeats 4000000 in
theorem lw_mark (C : Cx E κ cL_law 4 RL ret d Rc Rs nm) (hX : va_X b n xs κ.2.2.2.2.1 E.2.2.1) (hb : b < E.2.1) (hn : n < 2 ^ 31) (hi : i + 5 < n) (hd : 150 ≤ d) (hcl : c + 3 ≤ Rc) (hsl : s + 200 ≤ Rs) (hI : INV S im B) (nx : Nx E κ b B i c s) : V E κ 4 c s 1063 [some (.ref b), some (.ref B), some (.ref (B + 81)), some (.int (nI i))] [] S im := by
  have hI0 := hI
  obtain ⟨⟨hC, hM, -⟩, ⟨⟨m, n7, hst⟩, h02⟩, -, ⟨hid, -⟩, ⟨⟨T, hT, hTm, hTc⟩, -⟩, h7, h8, ⟨⟨wt, hw, hwm, hwc⟩, -⟩⟩ := hI0
  have hok := ST_MOk hst
  have hM1 := hM
  refine z_aload_n (pc := 1063) C dL_law_1063 rfl ?_
  refine z_aload_n (pc := 1064) C dL_law_1064 rfl ?_
  refine z_iload_n (pc := 1065) C dL_law_1065 rfl ?_
  refine z_iconstN (pc := 1066) C 1 dL_law_1066 ?_
  refine z_iaddN (pc := 1067) C dL_law_1067 ?_
  refine z_scx (pc := 1068) C hX hb dL_law_1068 (by omega) hn ?_
  refine z_aload_n (pc := 1069) C dL_law_1069 rfl ?_
  refine z_iload_n (pc := 1070) C dL_law_1070 rfl ?_
  refine z_iconstN (pc := 1071) C 2 dL_law_1071 ?_
  refine z_iaddN (pc := 1072) C dL_law_1072 ?_
  refine z_scx (pc := 1073) C hX hb dL_law_1073 (by omega) hn ?_
  refine z_aload_n (pc := 1074) C dL_law_1074 rfl ?_
  refine z_iload_n (pc := 1075) C dL_law_1075 rfl ?_
  refine z_iconstN (pc := 1076) C 3 dL_law_1076 ?_
  refine z_iaddN (pc := 1077) C dL_law_1077 ?_
  refine z_scx (pc := 1078) C hX hb dL_law_1078 (by omega) hn ?_
  refine kL_134 (pc := 1079) C dL_law_1079 (c6_mark κ.2.1 E S im B hC (im (B + 81 + 17)) (im (B + 81 + 18)) (im (B + 81 + 19)) h7 (xs (i + 1)) (xs (i + 2)) (xs (i + 3))) (cl_K hC) (by omega) (Nat.le_of_ble_eq_true rfl) (by omega) (by omega) (fun v1 S1 im1 h1 => ?_)
  obtain ⟨rfl, rfl, g1⟩ := h1
  have hso3 : isSh (xs (i + 1)) → (im (B + 81 + 17) (xs (i + 1)).toNatClampNeg = -1 ∨ im (B + 81 + 17) (xs (i + 1)).toNatClampNeg = 0 ∨ im (B + 81 + 17) (xs (i + 1)).toNatClampNeg = 1) := fun hh => by
    obtain ⟨s, -, hs, e⟩ := (rng (by decide) (by decide)).mp hh
    rw [e, nI_clamp (by omega)]
    exact (h7 s (by omega)).2.2.1
  have fr1 : ∀ a, a < B + 53 ∨ B + 61 ≤ a → im1 a = im a := by
    by_cases hh : isSh (xs (i + 1))
    · exact mark_fr (hso3 hh) g1
    · intro a _
      unfold g_markC at g1
      rw [r_mark, if_neg hh, if_neg (by decide)] at g1
      rw [g1]
  have e17 : im1 (B + 81 + 17) = im (B + 81 + 17) := fr1 _ (by omega)
  have e18 : im1 (B + 81 + 18) = im (B + 81 + 18) := fr1 _ (by omega)
  have hso : ShOk (B + 81) im1 := by unfold ShOk; rw [e17, e18]; exact I_ShOk h7
  refine z_aload_n (pc := 1082) C dL_law_1082 rfl ?_
  refine z_aload_n (pc := 1083) C dL_law_1083 rfl ?_
  refine z_iload_n (pc := 1084) C dL_law_1084 rfl ?_
  refine z_iconstN (pc := 1085) C 1 dL_law_1085 ?_
  refine z_iaddN (pc := 1086) C dL_law_1086 ?_
  refine z_scx (pc := 1087) C hX hb dL_law_1087 (by omega) hn ?_
  refine z_aload_n (pc := 1088) C dL_law_1088 rfl ?_
  refine z_iload_n (pc := 1089) C dL_law_1089 rfl ?_
  refine z_iconstN (pc := 1090) C 2 dL_law_1090 ?_
  refine z_iaddN (pc := 1091) C dL_law_1091 ?_
  refine z_scx (pc := 1092) C hX hb dL_law_1092 (by omega) hn ?_
  refine z_aload_n (pc := 1093) C dL_law_1093 rfl ?_
  refine z_iload_n (pc := 1094) C dL_law_1094 rfl ?_
  refine z_iconstN (pc := 1095) C 3 dL_law_1095 ?_
  refine z_iaddN (pc := 1096) C dL_law_1096 ?_
  refine z_scx (pc := 1097) C hX hb dL_law_1097 (by omega) hn ?_
  refine kL_137 (pc := 1098) C dL_law_1098 (m7_mark κ.2.1 E S im1 (B + 81) hM hso (xs (i + 1)) (xs (i + 2)) (xs (i + 3))) (ml_K hM1) (by omega) (Nat.le_of_ble_eq_true rfl) (by omega) (by omega) (fun v2 S2 im2 h2 => ?_)
  rw [e17, e18] at h2
  obtain ⟨rfl, rfl, g2⟩ := h2
  refine z_icmp_eqT (pc := 1101) C 1452 dL_law_1101 (by decide) rfl ?_
  exact z_widen (by omega) (by omega) (nx _ _ (INV_mark hI g1 g2 e17 e18))
set_option maxRecDepth 100000 in
set_option maxHeartbeats 4000000 in
theorem lw_copy (C : Cx E κ cL_law 4 RL ret d Rc Rs nm) (hX : va_X b n xs κ.2.2.2.2.1 E.2.2.1) (hb : b < E.2.1) (hn : n < 2 ^ 31) (hi : i + 5 < n) (hd : 150 ≤ d) (hcl : c + 3 ≤ Rc) (hsl : s + 200 ≤ Rs) (hI : INV S im B) (nx : Nx E κ b B i c s) : V E κ 4 c s 1152 [some (.ref b), some (.ref B), some (.ref (B + 81)), some (.int (nI i))] [] S im := by
  have hI0 := hI
  obtain ⟨⟨hC, hM, -⟩, ⟨⟨m, n7, hst⟩, h02⟩, -, ⟨hid, -⟩, ⟨⟨T, hT, hTm, hTc⟩, -⟩, h7, h8, ⟨⟨wt, hw, hwm, hwc⟩, -⟩⟩ := hI0
  have hok := ST_MOk hst
  have hM1 := hM
  refine z_aload_n (pc := 1152) C dL_law_1152 rfl ?_
  refine z_aload_n (pc := 1153) C dL_law_1153 rfl ?_
  refine z_iload_n (pc := 1154) C dL_law_1154 rfl ?_
  refine z_iconstN (pc := 1155) C 1 dL_law_1155 ?_
  refine z_iaddN (pc := 1156) C dL_law_1156 ?_
  refine z_scx (pc := 1157) C hX hb dL_law_1157 (by omega) hn ?_
  refine z_aload_n (pc := 1158) C dL_law_1158 rfl ?_
  refine z_iload_n (pc := 1159) C dL_law_1159 rfl ?_
  refine z_iconstN (pc := 1160) C 2 dL_law_1160 ?_
  refine z_iaddN (pc := 1161) C dL_law_1161 ?_
  refine z_scx (pc := 1162) C hX hb dL_law_1162 (by omega) hn ?_
  refine z_aload_n (pc := 1163) C dL_law_1163 rfl ?_
  refine z_iload_n (pc := 1164) C dL_law_1164 rfl ?_
  refine z_iconstN (pc := 1165) C 3 dL_law_1165 ?_
  refine z_iaddN (pc := 1166) C dL_law_1166 ?_
  refine z_scx (pc := 1167) C hX hb dL_law_1167 (by omega) hn ?_
  refine z_aload_n (pc := 1168) C dL_law_1168 rfl ?_
  refine z_iload_n (pc := 1169) C dL_law_1169 rfl ?_
  refine z_iconstN (pc := 1170) C 4 dL_law_1170 ?_
  refine z_iaddN (pc := 1171) C dL_law_1171 ?_
  refine z_scx (pc := 1172) C hX hb dL_law_1172 (by omega) hn ?_
  refine z_aload_n (pc := 1173) C dL_law_1173 rfl ?_
  refine z_iload_n (pc := 1174) C dL_law_1174 rfl ?_
  refine z_iconstN (pc := 1175) C 5 dL_law_1175 ?_
  refine z_iaddN (pc := 1176) C dL_law_1176 ?_
  refine z_scx (pc := 1177) C hX hb dL_law_1177 (by omega) hn ?_
  refine kL_146 (pc := 1178) C dL_law_1178 (c6_copy κ.2.1 E S im B hC (im (B + 81 + 17)) (im (B + 81 + 18)) (im (B + 81 + 19)) h7 (xs (i + 1)) (xs (i + 2)) (xs (i + 3)) (xs (i + 4)) (xs (i + 5))) (cl_K hC) (by omega) (Nat.le_of_ble_eq_true rfl) (by omega) (by omega) (fun v1 S1 im1 h1 => ?_)
  obtain ⟨rfl, rfl, g1⟩ := h1
  have fr1 := copy_fr g1
  have e17 : im1 (B + 81 + 17) = im (B + 81 + 17) := fr1 _ (by omega)
  have e18 : im1 (B + 81 + 18) = im (B + 81 + 18) := fr1 _ (by omega)
  have hso : ShOk (B + 81) im1 := by unfold ShOk; rw [e17, e18]; exact I_ShOk h7
  refine z_aload_n (pc := 1181) C dL_law_1181 rfl ?_
  refine z_aload_n (pc := 1182) C dL_law_1182 rfl ?_
  refine z_iload_n (pc := 1183) C dL_law_1183 rfl ?_
  refine z_iconstN (pc := 1184) C 1 dL_law_1184 ?_
  refine z_iaddN (pc := 1185) C dL_law_1185 ?_
  refine z_scx (pc := 1186) C hX hb dL_law_1186 (by omega) hn ?_
  refine z_aload_n (pc := 1187) C dL_law_1187 rfl ?_
  refine z_iload_n (pc := 1188) C dL_law_1188 rfl ?_
  refine z_iconstN (pc := 1189) C 2 dL_law_1189 ?_
  refine z_iaddN (pc := 1190) C dL_law_1190 ?_
  refine z_scx (pc := 1191) C hX hb dL_law_1191 (by omega) hn ?_
  refine z_aload_n (pc := 1192) C dL_law_1192 rfl ?_
  refine z_iload_n (pc := 1193) C dL_law_1193 rfl ?_
  refine z_iconstN (pc := 1194) C 3 dL_law_1194 ?_
  refine z_iaddN (pc := 1195) C dL_law_1195 ?_
  refine z_scx (pc := 1196) C hX hb dL_law_1196 (by omega) hn ?_
  refine z_aload_n (pc := 1197) C dL_law_1197 rfl ?_
  refine z_iload_n (pc := 1198) C dL_law_1198 rfl ?_
  refine z_iconstN (pc := 1199) C 4 dL_law_1199 ?_
  refine z_iaddN (pc := 1200) C dL_law_1200 ?_
  refine z_scx (pc := 1201) C hX hb dL_law_1201 (by omega) hn ?_
  refine z_aload_n (pc := 1202) C dL_law_1202 rfl ?_
  refine z_iload_n (pc := 1203) C dL_law_1203 rfl ?_
  refine z_iconstN (pc := 1204) C 5 dL_law_1204 ?_
  refine z_iaddN (pc := 1205) C dL_law_1205 ?_
  refine z_scx (pc := 1206) C hX hb dL_law_1206 (by omega) hn ?_
  refine kL_150 (pc := 1207) C dL_law_1207 (m7_copy κ.2.1 E S im1 (B + 81) hM hso (xs (i + 1)) (xs (i + 2)) (xs (i + 3)) (xs (i + 4)) (xs (i + 5))) (ml_K hM1) (by omega) (Nat.le_of_ble_eq_true rfl) (by omega) (by omega) (fun v2 S2 im2 h2 => ?_)
  rw [e17, e18] at h2
  obtain ⟨rfl, rfl, g2⟩ := h2
  refine z_icmp_eqT (pc := 1210) C 1452 dL_law_1210 (by decide) rfl ?_
  exact z_widen (by omega) (by omega) (nx _ _ (INV_copy hI g1 g2))
set_option maxRecDepth 100000 in
set_option maxHeartbeats 4000000 in
theorem lw_lay (C : Cx E κ cL_law 4 RL ret d Rc Rs nm) (hX : va_X b n xs κ.2.2.2.2.1 E.2.2.1) (hb : b < E.2.1) (hn : n < 2 ^ 31) (hi : i + 5 < n) (hd : 150 ≤ d) (hcl : c + 3 ≤ Rc) (hsl : s + 200 ≤ Rs) (hI : INV S im B) (nx : Nx E κ b B i c s) : V E κ 4 c s 1215 [some (.ref b), some (.ref B), some (.ref (B + 81)), some (.int (nI i))] [] S im := by
  have hI0 := hI
  obtain ⟨⟨hC, hM, -⟩, ⟨⟨m, n7, hst⟩, h02⟩, -, ⟨hid, -⟩, ⟨⟨T, hT, hTm, hTc⟩, -⟩, h7, h8, ⟨⟨wt, hw, hwm, hwc⟩, -⟩⟩ := hI0
  have hok := ST_MOk hst
  have hM1 := hM
  refine z_aload_n (pc := 1215) C dL_law_1215 rfl ?_
  refine z_aload_n (pc := 1216) C dL_law_1216 rfl ?_
  refine z_iload_n (pc := 1217) C dL_law_1217 rfl ?_
  refine z_iconstN (pc := 1218) C 1 dL_law_1218 ?_
  refine z_iaddN (pc := 1219) C dL_law_1219 ?_
  refine z_scx (pc := 1220) C hX hb dL_law_1220 (by omega) hn ?_
  refine z_aload_n (pc := 1221) C dL_law_1221 rfl ?_
  refine z_iload_n (pc := 1222) C dL_law_1222 rfl ?_
  refine z_iconstN (pc := 1223) C 2 dL_law_1223 ?_
  refine z_iaddN (pc := 1224) C dL_law_1224 ?_
  refine z_scx (pc := 1225) C hX hb dL_law_1225 (by omega) hn ?_
  refine z_aload_n (pc := 1226) C dL_law_1226 rfl ?_
  refine z_iload_n (pc := 1227) C dL_law_1227 rfl ?_
  refine z_iconstN (pc := 1228) C 3 dL_law_1228 ?_
  refine z_iaddN (pc := 1229) C dL_law_1229 ?_
  refine z_scx (pc := 1230) C hX hb dL_law_1230 (by omega) hn ?_
  refine kL_151 (pc := 1231) C dL_law_1231 (c6_lay κ.2.1 E S im B hC m hok.1.1 hst.1.1.2.2 (im (B + 81 + 17)) (im (B + 81 + 18)) (im (B + 81 + 19)) h7 (im (B + 81 + 20)) (im (B + 81 + 21)) (im (B + 81 + 22)) (im (B + 81 + 23)) h8 (xs (i + 1)) (xs (i + 2)) (xs (i + 3))) (cl_K hC) (by omega) (Nat.le_of_ble_eq_true rfl) (by omega) (by omega) (fun v1 S1 im1 h1 => ?_)
  obtain ⟨rfl, rfl, g1⟩ := h1
  have fr1 := lay_fr g1
  refine z_aload_n (pc := 1234) C dL_law_1234 rfl ?_
  refine z_aload_n (pc := 1235) C dL_law_1235 rfl ?_
  refine z_iload_n (pc := 1236) C dL_law_1236 rfl ?_
  refine z_iconstN (pc := 1237) C 1 dL_law_1237 ?_
  refine z_iaddN (pc := 1238) C dL_law_1238 ?_
  refine z_scx (pc := 1239) C hX hb dL_law_1239 (by omega) hn ?_
  refine z_aload_n (pc := 1240) C dL_law_1240 rfl ?_
  refine z_iload_n (pc := 1241) C dL_law_1241 rfl ?_
  refine z_iconstN (pc := 1242) C 2 dL_law_1242 ?_
  refine z_iaddN (pc := 1243) C dL_law_1243 ?_
  refine z_scx (pc := 1244) C hX hb dL_law_1244 (by omega) hn ?_
  refine z_aload_n (pc := 1245) C dL_law_1245 rfl ?_
  refine z_iload_n (pc := 1246) C dL_law_1246 rfl ?_
  refine z_iconstN (pc := 1247) C 3 dL_law_1247 ?_
  refine z_iaddN (pc := 1248) C dL_law_1248 ?_
  refine z_scx (pc := 1249) C hX hb dL_law_1249 (by omega) hn ?_
  refine kL_154 (pc := 1250) C dL_law_1250 (m7_lay κ.2.1 E S im1 (B + 81) hM m n7 (im (B + 81 + 1)) (fr1 _ (by omega)) hok (xs (i + 1)) (xs (i + 2)) (xs (i + 3))) (ml_K hM1) (by omega) (Nat.le_of_ble_eq_true rfl) (by omega) (by omega) (fun v2 S2 im2 h2 => ?_)
  rw [fr1 (B + 81 + 17) (by omega), fr1 (B + 81 + 20) (by omega)] at h2
  obtain ⟨rfl, rfl, g2⟩ := h2
  refine z_icmp_eqT (pc := 1253) C 1452 dL_law_1253 (by decide) rfl ?_
  exact z_widen (by omega) (by omega) (nx _ _ (INV_lay hI hst g1 g2))
end LW
