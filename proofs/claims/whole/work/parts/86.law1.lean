/-! the law: the script, and what holds between two calls -/
section ZSC
variable {E : Ex} {κ : Kx} {cc : ByteArray} {nL : Nat} {own : String} {ret : Option FieldType} {d Rc Rs : Nat} {nm : String} {cells slots pc : Nat} {L : List (Option Value)} {st : List Value} {S : Sx} {im : Mem}
theorem z_scl (C : Cx E κ cc nL own ret d Rc Rs nm) {b n : Nat} {xs : Nat → Int32} (hX : va_X b n xs κ.2.2.2.2.1 E.2.2.1) (hb : b < E.2.1) (hd : decode cc pc = .ok (.arraylength, 1)) (kk : V E κ nL cells slots (pc + 1) L (.int (nI n) :: st) S im) : V E κ nL cells slots pc L (.ref b :: st) S im := fun H ls locs h1 h2 h3 => by
  obtain ⟨scr, g1, g2, g3, g4, g5⟩ := hX
  exact W.alen (n := nI n) C.1 C.2.1 (by rw [h2.2.2.1 b hb]; exact g1) g2 (by rw [g4] <;> rfl) rfl rfl hd (kk H ls locs h1 h2 h3)
theorem z_scx (C : Cx E κ cc nL own ret d Rc Rs nm) {b n k : Nat} {xs : Nat → Int32} (hX : va_X b n xs κ.2.2.2.2.1 E.2.2.1) (hb : b < E.2.1) (hd : decode cc pc = .ok (.iaload, 1)) (hk : k < n) (hn : n < 2 ^ 31) (kk : V E κ nL cells slots (pc + 1) L (.int (xs k) :: st) S im) : V E κ nL cells slots pc L (.int (nI k) :: .ref b :: st) S im := fun H ls locs h1 h2 h3 => by
  obtain ⟨scr, g1, g2, g3, g4, g5⟩ := hX
  exact W.iald (v := .int (xs k)) C.1 C.2.1 (by rw [h2.2.2.1 b hb]; exact g1) g2 g3 (by rw [g4]; exact nI_in hk hn) (by rw [nI_clamp (by omega)]; exact g5 k hk) rfl rfl hd (kk H ls locs h1 h2 h3)
end ZSC
def I_now (S : Sx) (im : Mem) (B : Nat) : Prop := (∃ n n7, ST S im (B + 1) (B + 107) (im (B + 81 + 1)) n n7) ∧ inR 0 9999 (im (B + 81 + 1) 2)
def I_img (S : Sx) (im : Mem) (B : Nat) : Prop := im B 3 = im (B + 81) 3 ∧ (im (B + 81) 3 ≠ 0 → (∃ n n7, ST S im (B + 16) (B + 107) (im (B + 81 + 2)) n n7) ∧ inR 0 9999 (im (B + 81 + 2) 2))
def I_tp (im : Mem) (B : Nat) : Prop := (∃ T, T ≤ 96 ∧ im (B + 81) 11 = nI T ∧ im (B + 46) 1 = nI T) ∧ im (B + 47) = im (B + 81 + 9)
def I_sh (im : Mem) (B : Nat) : Prop := SHS im B (im (B + 81 + 17)) (im (B + 81 + 18)) (im (B + 81 + 19))
def I_sl (im : Mem) (B : Nat) : Prop := SLS im B (im (B + 81 + 20)) (im (B + 81 + 21)) (im (B + 81 + 22)) (im (B + 81 + 23))
def I_wt (im : Mem) (B : Nat) : Prop := (∃ wt, wt ≤ 60 ∧ im (B + 81) 37 = nI wt ∧ im B 8 = nI wt) ∧ im (B + 51) = im (B + 81 + 25)
/-- what holds between two calls: LampOrder at B, the reference at B + 81, texts from B + 107 on -/
def INV (S : Sx) (im : Mem) (B : Nat) : Prop := (CL S B ∧ ML S (B + 81) ∧ ∃ i0, S.1 = B + 107 + 3 * i0) ∧ I_now S im B ∧ I_img S im B ∧ (im (B + 81) 4 = -1 ∧ KyOk (B + 81) im) ∧ I_tp im B ∧ I_sh im B ∧ I_sl im B ∧ I_wt im B
theorem I_sh_fr {im im' : Mem} {B : Nat} (h : I_sh im B) (e : ∀ a, (B + 53 ≤ a ∧ a < B + 61) ∨ (B + 98 ≤ a ∧ a ≤ B + 100) → im' a = im a) : I_sh im' B := by
  unfold I_sh at h ⊢
  rw [e _ (by omega), e _ (by omega), e _ (by omega)]
  intro s hs
  obtain ⟨⟨a1, a2, a3⟩, a4⟩ := h s hs
  rw [e (B + 53 + 2 * s) (by omega), e (B + 53 + 2 * s + 1) (by omega)]
  exact ⟨⟨a1, a2, a3⟩, a4⟩
theorem I_sl_fr {im im' : Mem} {B : Nat} (h : I_sl im B) (e : ∀ a, (B + 61 ≤ a ∧ a < B + 81) ∨ (B + 101 ≤ a ∧ a ≤ B + 104) → im' a = im a) : I_sl im' B := by
  unfold I_sl at h ⊢
  rw [e _ (by omega), e _ (by omega), e _ (by omega), e _ (by omega)]
  intro s hs
  have h1 := h s hs
  rw [e (B + 61 + 4 * s) (by omega), e (B + 61 + 4 * s + 1) (by omega), e (B + 61 + 4 * s + 2) (by omega), e (B + 61 + 4 * s + 2 + 1) (by omega)]
  exact h1
theorem I_tp_fr {im im' : Mem} {B : Nat} (h : I_tp im B) (e : ∀ a, a = B + 46 ∨ a = B + 47 ∨ a = B + 90 → im' a = im a) (em : im' (B + 81) 11 = im (B + 81) 11) : I_tp im' B := by
  unfold I_tp at h ⊢
  rw [em, e (B + 46) (by omega), e (B + 47) (by omega), e (B + 81 + 9) (by omega)]
  exact h
theorem I_wt_fr {im im' : Mem} {B : Nat} (h : I_wt im B) (e : ∀ a, a = B + 51 ∨ a = B + 106 → im' a = im a) (em : im' (B + 81) 37 = im (B + 81) 37) (eb : im' B 8 = im B 8) : I_wt im' B := by
  unfold I_wt at h ⊢
  rw [em, eb, e (B + 51) (by omega), e (B + 81 + 25) (by omega)]
  exact h
theorem I_img_fr {S S' : Sx} {im im' : Mem} {B : Nat} (h : I_img S im B) (em : im' (B + 81) 3 = im (B + 81) 3) (eb : im' B 3 = im B 3) (e2 : im' (B + 81 + 2) = im (B + 81 + 2)) (hx : S' = S ∨ SX (B + 31) S S' ∨ SX (B + 1) S S') (e : ∀ a, B + 16 ≤ a → a < B + 31 → im' a = im a) (et : ∀ a, B + 107 ≤ a → ¬ (a - (B + 107)) % 3 = 2 → im' a = im a) : I_img S' im' B := by
  unfold I_img at h ⊢
  rw [em, eb, e2]
  refine ⟨h.1, fun h3 => ?_⟩
  obtain ⟨⟨n, n7, hst⟩, h9⟩ := h.2 h3
  refine ⟨⟨n, n7, ?_⟩, h9⟩
  have h1 : ST S im' (B + 16) (B + 107) (im (B + 81 + 2)) n n7 := ST_fr hst (fun a q1 q2 _ => e a q1 q2) et
  rcases hx with rfl | hx | hx
  · exact h1
  · exact ST_X h1 hx (by omega) (by omega)
  · exact ST_X h1 hx (by omega) (by omega)
theorem KyOk_fr {im im' : Mem} {M : Nat} (h : KyOk M im) (e1 : im' (M + 10) = im (M + 10)) (e2 : im' (M + 11) = im (M + 11)) : KyOk M im' := by
  unfold KyOk
  rw [e1, e2]
  exact h
theorem ST_MOk {S : Sx} {im : Mem} {q X n n7 : Nat} {f : Nat → Int32} (h : ST S im q X f n n7) : MOk f n n7 := ⟨⟨h.1.1.1, h.1.1.2.1⟩, ⟨h.2.1.1.1, h.2.1.1.2.2⟩, fun t ht => by obtain ⟨i, m, key, u, -, g⟩ := h.2.1.2.1 t ht; exact ⟨key, m, g.2.1⟩⟩
theorem I_ShOk {im : Mem} {B : Nat} (h : I_sh im B) : ShOk (B + 81) im := fun s hs => ⟨(h s hs).2.1, (h s hs).2.2.1⟩
theorem I_SlOk {im : Mem} {B : Nat} (h : I_sl im B) : SlOk (B + 81) im := fun s hs h2 => ((h s hs).2.2.1 h2).2.1
/-- a call that touches the street that is, and no more -/
theorem INV_F1 {S S1 : Sx} {im im1 im2 : Mem} {B n' n7 : Nat} {g : Nat → Int32} (h : INV S im B) (sx : SX (B + 31) S S1) (hst : ST S1 im1 (B + 1) (B + 107) g n' n7) (fr : frC B (B + 107) im im1) (hg : im2 (B + 81 + 1) = g) (fp : frP (B + 81) im1 im2) (h2 : inR 0 9999 (g 2)) : INV S1 im2 B := by
  obtain ⟨⟨hC, hM, i0, hi0⟩, -, h3, ⟨h4, h5⟩, h6, h7, h8, h9⟩ := h
  have e : ∀ a, (a < B + 1 ∨ B + 46 ≤ a ∨ (B + 16 ≤ a ∧ a < B + 31)) → a ≠ B + 52 → (a < B + 107 ∨ ¬ (a - (B + 107)) % 3 = 2) → a ≠ B + 81 + 1 → a ≠ B + 81 + 4 → a ≠ B + 81 + 5 → a ≠ B + 81 + 6 → a ≠ B + 81 + 7 → a ≠ B + 81 + 8 → a ≠ B + 81 + 15 → a ≠ B + 81 + 16 → im2 a = im a := fun a q1 q2 q3 p1 p2 p3 p4 p5 p6 p7 p8 => (fp a p1 p2 p3 p4 p5 p6 p7 p8).trans (fr a q1 q2 q3)
  have e0 : ∀ a, (a = B ∨ (B + 46 ≤ a ∧ a ≤ B + 51) ∨ (B + 53 ≤ a ∧ a ≤ B + 81) ∨ (B + 16 ≤ a ∧ a < B + 31) ∨ a = B + 83 ∨ (B + 90 ≤ a ∧ a ≤ B + 95) ∨ (B + 98 ≤ a ∧ a ≤ B + 106)) → im2 a = im a := fun a q => e a (by omega) (by omega) (by omega) (by omega) (by omega) (by omega) (by omega) (by omega) (by omega) (by omega) (by omega)
  have eM := e0 (B + 81) (by omega)
  have eB := e0 B (by omega)
  refine ⟨⟨CL_X hC sx (Or.inr (Or.inr rfl)), ML_X hM sx (by omega), i0, by rw [sx.1]; exact hi0⟩, ⟨⟨n', n7, by rw [hg]; exact ST_fr hst (fun a q1 q2 _ => fp a (by omega) (by omega) (by omega) (by omega) (by omega) (by omega) (by omega) (by omega)) (fun a q1 _ => fp a (by omega) (by omega) (by omega) (by omega) (by omega) (by omega) (by omega) (by omega))⟩, by rw [hg]; exact h2⟩, I_img_fr h3 (by rw [eM]) (by rw [eB]) (e0 _ (by omega)) (Or.inr (Or.inl sx)) (fun a q1 q2 => e0 a (by omega)) (fun a q1 q2 => e a (by omega) (by omega) (Or.inr q2) (by omega) (by omega) (by omega) (by omega) (by omega) (by omega) (by omega) (by omega)), ⟨by rw [eM]; exact h4, KyOk_fr h5 (e0 _ (by omega)) (e0 _ (by omega))⟩, I_tp_fr h6 (fun a q => e0 a (by omega)) (by rw [eM]), I_sh_fr h7 (fun a q => e0 a (by omega)), I_sl_fr h8 (fun a q => e0 a (by omega)), I_wt_fr h9 (fun a q => e0 a (by omega)) (by rw [eM]) (by rw [eB])⟩
/-- the reference behind such a call of the class -/
theorem INV_r1 {S S1 : Sx} {im im1 : Mem} {B : Nat} (h : INV S im B) (sx : SX (B + 31) S S1) (fr : frC B (B + 107) im im1) : ML S1 (B + 81) ∧ ∀ a, B + 81 ≤ a → a < B + 107 → im1 a = im a := ⟨ML_X h.1.2.1 sx (by omega), fun a q1 q2 => fr a (by omega) (by omega) (by omega)⟩
