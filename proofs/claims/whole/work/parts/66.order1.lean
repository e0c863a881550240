/-! the class: LampOrder, its cells; lamps -/
/-- the cells of a LampOrder at B -/
def CL (S : Sx) (B : Nat) : Prop := (S.2.1 B = 6 ∧ S.2.2.2 B 0 = some (B + 1) ∧ S.2.2.2 B 1 = some (B + 16) ∧ S.2.2.2 B 2 = some (B + 31) ∧ S.2.2.2 B 4 = some (B + 46) ∧ S.2.2.2 B 5 = some (B + 49) ∧ S.2.2.2 B 6 = some (B + 50) ∧ S.2.2.2 B 7 = some (B + 51) ∧ S.2.2.2 B 9 = some (B + 52)) ∧
  (SL S (B + 1) ∧ SL S (B + 16) ∧ SL S (B + 31)) ∧
  (S.2.1 (B + 46) = 5 ∧ S.2.2.2 (B + 46) 0 = some (B + 47) ∧ S.2.2.2 (B + 46) 7 = some (B + 48) ∧ (S.2.1 (B + 47) = 8 ∧ S.2.2.1 (B + 47) = 96) ∧ (S.2.1 (B + 48) = 8 ∧ S.2.2.1 (B + 48) = 96)) ∧
  ((S.2.1 (B + 49) = 12 ∧ S.2.2.1 (B + 49) = 4) ∧ (S.2.1 (B + 50) = 13 ∧ S.2.2.1 (B + 50) = 5) ∧ (S.2.1 (B + 51) = 8 ∧ S.2.2.1 (B + 51) = 60) ∧ (S.2.1 (B + 52) = 8 ∧ S.2.2.1 (B + 52) = 10)) ∧
  (∀ i, i < 4 → S.2.2.2 (B + 49) i = some (B + 53 + 2 * i) ∧ TL S (B + 53 + 2 * i)) ∧
  ∀ i, i < 5 → S.2.2.2 (B + 50) i = some (B + 61 + 4 * i) ∧ S.2.1 (B + 61 + 4 * i) = 2 ∧ S.2.2.2 (B + 61 + 4 * i) 1 = some (B + 61 + 4 * i + 1) ∧ S.2.2.2 (B + 61 + 4 * i) 2 = some (B + 61 + 4 * i + 2) ∧ S.2.1 (B + 61 + 4 * i + 1) = 0 ∧ TL S (B + 61 + 4 * i + 2)
theorem cl_K {S : Sx} {B : Nat} (h : CL S B) : S.2.1 B = 6 := h.1.1
theorem cl_r0 {S : Sx} {B : Nat} (h : CL S B) : S.2.2.2 B 0 = some (B + 1) := h.1.2.1
theorem cl_r1 {S : Sx} {B : Nat} (h : CL S B) : S.2.2.2 B 1 = some (B + 16) := h.1.2.2.1
theorem cl_r2 {S : Sx} {B : Nat} (h : CL S B) : S.2.2.2 B 2 = some (B + 31) := h.1.2.2.2.1
theorem cl_r4 {S : Sx} {B : Nat} (h : CL S B) : S.2.2.2 B 4 = some (B + 46) := h.1.2.2.2.2.1
theorem cl_r5 {S : Sx} {B : Nat} (h : CL S B) : S.2.2.2 B 5 = some (B + 49) := h.1.2.2.2.2.2.1
theorem cl_r6 {S : Sx} {B : Nat} (h : CL S B) : S.2.2.2 B 6 = some (B + 50) := h.1.2.2.2.2.2.2.1
theorem cl_r7 {S : Sx} {B : Nat} (h : CL S B) : S.2.2.2 B 7 = some (B + 51) := h.1.2.2.2.2.2.2.2.1
theorem cl_r9 {S : Sx} {B : Nat} (h : CL S B) : S.2.2.2 B 9 = some (B + 52) := h.1.2.2.2.2.2.2.2.2
theorem cl_s1 {S : Sx} {B : Nat} (h : CL S B) : SL S (B + 1) := h.2.1.1
theorem cl_s2 {S : Sx} {B : Nat} (h : CL S B) : SL S (B + 16) := h.2.1.2.1
theorem cl_s3 {S : Sx} {B : Nat} (h : CL S B) : SL S (B + 31) := h.2.1.2.2
theorem cl_kr {S : Sx} {B : Nat} (h : CL S B) : S.2.1 (B + 46) = 5 := h.2.2.1.1
theorem cl_t0 {S : Sx} {B : Nat} (h : CL S B) : S.2.2.2 (B + 46) 0 = some (B + 47) := h.2.2.1.2.1
theorem cl_t7 {S : Sx} {B : Nat} (h : CL S B) : S.2.2.2 (B + 46) 7 = some (B + 48) := h.2.2.1.2.2.1
theorem cl_a47 {S : Sx} {B : Nat} (h : CL S B) : S.2.1 (B + 47) = 8 := h.2.2.1.2.2.2.1.1
theorem cl_n47 {S : Sx} {B : Nat} (h : CL S B) : S.2.2.1 (B + 47) = 96 := h.2.2.1.2.2.2.1.2
theorem cl_a48 {S : Sx} {B : Nat} (h : CL S B) : S.2.1 (B + 48) = 8 := h.2.2.1.2.2.2.2.1
theorem cl_n48 {S : Sx} {B : Nat} (h : CL S B) : S.2.2.1 (B + 48) = 96 := h.2.2.1.2.2.2.2.2
theorem cl_a49 {S : Sx} {B : Nat} (h : CL S B) : S.2.1 (B + 49) = 12 := h.2.2.2.1.1.1
theorem cl_n49 {S : Sx} {B : Nat} (h : CL S B) : S.2.2.1 (B + 49) = 4 := h.2.2.2.1.1.2
theorem cl_a50 {S : Sx} {B : Nat} (h : CL S B) : S.2.1 (B + 50) = 13 := h.2.2.2.1.2.1.1
theorem cl_n50 {S : Sx} {B : Nat} (h : CL S B) : S.2.2.1 (B + 50) = 5 := h.2.2.2.1.2.1.2
theorem cl_a51 {S : Sx} {B : Nat} (h : CL S B) : S.2.1 (B + 51) = 8 := h.2.2.2.1.2.2.1.1
theorem cl_n51 {S : Sx} {B : Nat} (h : CL S B) : S.2.2.1 (B + 51) = 60 := h.2.2.2.1.2.2.1.2
theorem cl_a52 {S : Sx} {B : Nat} (h : CL S B) : S.2.1 (B + 52) = 8 := h.2.2.2.1.2.2.2.1
theorem cl_n52 {S : Sx} {B : Nat} (h : CL S B) : S.2.2.1 (B + 52) = 10 := h.2.2.2.1.2.2.2.2
theorem CL_X {q B : Nat} {S S' : Sx} (h : CL S B) (x : SX q S S') (hq : q = B + 1 ∨ q = B + 16 ∨ q = B + 31) : CL S' B := by
  have x' := x
  obtain ⟨x1, x2, x3, x4⟩ := x'
  unfold CL
  rw [x2, x3, x4 B (by omega), x4 (B + 46) (by omega), x4 (B + 49) (by omega), x4 (B + 50) (by omega)]
  refine ⟨h.1, ⟨SL_X h.2.1.1 x (by omega) (by omega), SL_X h.2.1.2.1 x (by omega) (by omega), SL_X h.2.1.2.2 x (by omega) (by omega)⟩, h.2.2.1, h.2.2.2.1, fun i hi => ⟨(h.2.2.2.2.1 i hi).1, TL_X (h.2.2.2.2.1 i hi).2 x (by omega)⟩, fun i hi => ?_⟩
  obtain ⟨a, b, c, d, e, g⟩ := h.2.2.2.2.2 i hi
  rw [x4 (B + 61 + 4 * i) (by omega)]
  exact ⟨a, b, c, d, e, TL_X g x (by omega)⟩
/-- of the heap only the street that is, the street that is thought, the counts and stacks of texts have changed -/
def frC (B X : Nat) (im im' : Mem) : Prop := ∀ a, (a < B + 1 ∨ B + 46 ≤ a ∨ (B + 16 ≤ a ∧ a < B + 31)) → a ≠ B + 52 → (a < X ∨ ¬ (a - X) % 3 = 2) → im' a = im a
theorem frC.rf {B X : Nat} {im : Mem} : frC B X im im := fun _ _ _ _ => rfl
theorem frC.tr {B X : Nat} {a b c : Mem} (h1 : frC B X a b) (h2 : frC B X b c) : frC B X a c := fun d g1 g2 g3 => (h2 d g1 g2 g3).trans (h1 d g1 g2 g3)
theorem frQ.C1 {B X : Nat} {im im' : Mem} (h : frQ (B + 1) X im im') : frC B X im im' := fun a g1 _ g3 => h a (by omega) g3
theorem frQ.C3 {B X : Nat} {im im' : Mem} (h : frQ (B + 31) X im im') : frC B X im im' := fun a g1 _ g3 => h a (by omega) g3
theorem frC.up {B X c k : Nat} {im im' : Mem} {x : Int32} (h : frC B X im im') (h1 : (B + 1 ≤ c ∧ c < B + 16) ∨ (B + 31 ≤ c ∧ c < B + 46) ∨ c = B + 52) : frC B X im (up2 im' c k x) := fun d g1 g2 g3 => by rw [up2_n _ _ _ (by omega)]; exact h d g1 g2 g3
/-- a call's answer, and the street behind it -/
def pC (S : Sx) (im : Mem) (B X n7 : Nat) (r : Int32) (g : Nat → Int32) : Int32 → Sx → Mem → Prop := fun v S' im' => r = v ∧ SX (B + 31) S S' ∧ (∃ n', ST S' im' (B + 1) X g n' n7) ∧ frC B X im im'
theorem TR_mv2 {S : Sx} {im im' : Mem} {q X : Nat} {f g : Nat → Int32} {n7 : Nat} (h : TR S im q X f n7) (h7 : g 7 = f 7) (hs : ∀ k, 78 ≤ k → g k = f k) (hq : im' q 10 = nI n7) (hc : im' (q + 4) = im (q + 4)) (hf : ∀ a, X ≤ a → ¬ (a - X) % 3 = 2 → im' a = im a) : TR S im' q X g n7 := by
  obtain ⟨⟨a1, a2, a3⟩, b, c⟩ := h
  refine ⟨⟨a1, hq, by rw [h7]; exact a3⟩, fun t ht => ?_, fun k hk => ?_⟩
  · obtain ⟨i, m, key, u, g1, g2⟩ := b t ht
    exact ⟨i, m, key, u, g1, TXr_mv g2 hs hf⟩
  · rw [hc, c k hk, s_cnt_cg n7 (fun t _ => hs _ (by omega))]
theorem ST_up {S : Sx} {im : Mem} {q X n n7 c k : Nat} {x : Int32} {f g : Nat → Int32} (h : ST S im q X f n n7) (hr : SR (up2 im c k x) q g n) (hs : sam f g) (hg : RG g n) (h1 : q ≤ c) (h2 : c < q + 15) (h4 : c ≠ q + 4) (hX : q + 15 ≤ X) : ST S (up2 im c k x) q X g n n7 := ST_mv h hr hs hg (up2_n _ _ _ (by omega)) (frQ.rf.up h1 h2) hX
theorem wi_R {x : Int32} {b : Nat} {k : Int} (h : nI 0 ≤ x ∧ x ≤ nI b) (hb : b < 2 ^ 31) (hk : (b : Int) = k) : inR 0 k x := by
  obtain ⟨h1, h2⟩ := h
  rw [Int32.le_iff_toInt_le, nI_toInt (by decide)] at h1
  rw [Int32.le_iff_toInt_le, nI_toInt hb] at h2
  exact ⟨by omega, by omega⟩
theorem RG_comes {f : Nat → Int32} {n : Nat} {k p o u : Int32} (h : RG f n) (hn : n < 10) (hk : inR 0 5 k) (hp : inR 0 99 p) (ho : inR 0 999 o) (hu : inR 0 99 u) : RG (s_comes f n k p o u) (n + 1) := by
  obtain ⟨h4, h5, hl⟩ := h
  unfold s_comes
  refine ⟨?_, ?_, fun l hl' => ?_⟩
  · simp only [upd_n _ _ (show 4 ≠ 1 by decide), upd_n _ _ (show 4 ≠ 8 + 7 * n + 6 by omega), upd_n _ _ (show 4 ≠ 8 + 7 * n + 5 by omega), upd_n _ _ (show 4 ≠ 8 + 7 * n + 4 by omega), upd_n _ _ (show 4 ≠ 8 + 7 * n + 3 by omega), upd_n _ _ (show 4 ≠ 8 + 7 * n + 2 by omega), upd_n _ _ (show 4 ≠ 8 + 7 * n + 1 by omega), upd_n _ _ (show 4 ≠ 8 + 7 * n by omega)]; exact h4
  · simp only [upd_n _ _ (show 5 ≠ 1 by decide), upd_n _ _ (show 5 ≠ 8 + 7 * n + 6 by omega), upd_n _ _ (show 5 ≠ 8 + 7 * n + 5 by omega), upd_n _ _ (show 5 ≠ 8 + 7 * n + 4 by omega), upd_n _ _ (show 5 ≠ 8 + 7 * n + 3 by omega), upd_n _ _ (show 5 ≠ 8 + 7 * n + 2 by omega), upd_n _ _ (show 5 ≠ 8 + 7 * n + 1 by omega), upd_n _ _ (show 5 ≠ 8 + 7 * n by omega)]; exact h5
  · by_cases e : l = n
    · subst e
      refine ⟨?_, ?_, ?_, ?_, ?_⟩
      · rw [upd_n _ _ (by omega), upd_n _ _ (by omega), upd_n _ _ (by omega), upd_n _ _ (by omega), upd_n _ _ (by omega), upd_n _ _ (by omega), upd_n _ _ (by omega)]; show inR 0 5 (upd f (8 + 7 * l) k (8 + 7 * l)); rw [upd_s]; exact hk
      · rw [upd_n _ _ (by omega), upd_n _ _ (by omega), upd_n _ _ (by omega), upd_n _ _ (by omega), upd_n _ _ (by omega), upd_n _ _ (by omega), upd_s]; exact hp
      · rw [upd_n _ _ (by omega), upd_n _ _ (by omega), upd_n _ _ (by omega), upd_n _ _ (by omega), upd_n _ _ (by omega), upd_s]; exact ho
      · rw [upd_n _ _ (by omega), upd_n _ _ (by omega), upd_n _ _ (by omega), upd_n _ _ (by omega), upd_s]; exact hu
      · rw [upd_n _ _ (by omega), upd_n _ _ (by omega), upd_n _ _ (by omega), upd_s]; exact nI_R (by omega) (by omega)
    · obtain ⟨a0, a1, a2, a3, a4⟩ := hl l (by omega)
      refine ⟨?_, ?_, ?_, ?_, ?_⟩ <;> (rw [upd_n _ _ (by omega), upd_n _ _ (by omega), upd_n _ _ (by omega), upd_n _ _ (by omega), upd_n _ _ (by omega), upd_n _ _ (by omega), upd_n _ _ (by omega), upd_n _ _ (by omega)]; assumption)
theorem ST_comes {S : Sx} {im im' : Mem} {q X n n7 : Nat} {f : Nat → Int32} {k p o u : Int32} (h : ST S im q X f n n7) (hn : n < 10) (hr : SR im' q (s_comes f n k p o u) (n + 1)) (hq : ∀ j, j ≠ 1 → im' q j = im q j) (ho : ∀ c, c ≠ q → c ≠ q + 5 + n → im' c = im c) (hX : q + 15 ≤ X) (hk : inR 0 5 k) (hp : inR 0 99 p) (hoi : inR 0 999 o) (hu : inR 0 99 u) : ST S im' q X (s_comes f n k p o u) (n + 1) n7 := by
  have e : ∀ j, j = 7 ∨ 78 ≤ j → s_comes f n k p o u j = f j := fun j hj => by
    unfold s_comes
    rw [upd_n _ _ (by omega), upd_n _ _ (by omega), upd_n _ _ (by omega), upd_n _ _ (by omega), upd_n _ _ (by omega), upd_n _ _ (by omega), upd_n _ _ (by omega), upd_n _ _ (by omega)]
  exact ⟨hr, TR_mv2 h.2.1 (e 7 (Or.inl rfl)) (fun k hk => e k (Or.inr hk)) (by rw [hq 10 (by decide)]; exact h.2.1.1.2.1) (ho _ (by omega) (by omega)) (fun a h1 h2 => ho a (by omega) (by omega)), RG_comes h.2.2 hn hk hp hoi hu⟩
theorem RG_upd {f : Nat → Int32} {n l0 k0 : Nat} {x : Int32} (h : RG f n) (h0 : k0 = 0 → inR 0 5 x) (h1 : k0 = 1 → inR 0 99 x) (h2 : k0 = 2 → inR 0 999 x) (h3 : k0 = 3 → inR 0 99 x) (h4 : k0 = 4 → inR 0 9999 x) (hk : k0 < 7) : RG (upd f (8 + 7 * l0 + k0) x) n := by
  obtain ⟨g4, g5, hl⟩ := h
  refine ⟨by rw [upd_n _ _ (by omega)]; exact g4, by rw [upd_n _ _ (by omega)]; exact g5, fun l hl' => ?_⟩
  obtain ⟨a0, a1, a2, a3, a4⟩ := hl l hl'
  have key : ∀ j, j < 5 → ∀ b : Int, inR 0 b (f (8 + 7 * l + j)) → (k0 = j → inR 0 b x) → inR 0 b (upd f (8 + 7 * l0 + k0) x (8 + 7 * l + j)) := fun j hj b g1 g2 => by
    by_cases e : 8 + 7 * l + j = 8 + 7 * l0 + k0
    · rw [e, upd_s]; exact g2 (by omega)
    · rw [upd_n _ _ e]; exact g1
  exact ⟨key 0 (by decide) 5 a0 h0, key 1 (by decide) 99 a1 h1, key 2 (by decide) 999 a2 h2, key 3 (by decide) 99 a3 h3, key 4 (by decide) 9999 a4 h4⟩
theorem ST_lamp {S : Sx} {im : Mem} {q X n n7 l0 k0 : Nat} {x : Int32} {f : Nat → Int32} (h : ST S im q X f n n7) (hl : l0 < n) (hk : k0 < 7) (h0 : k0 = 0 → inR 0 5 x) (h1 : k0 = 1 → inR 0 99 x) (h2 : k0 = 2 → inR 0 999 x) (h3 : k0 = 3 → inR 0 99 x) (h4 : k0 = 4 → inR 0 9999 x) (hX : q + 15 ≤ X) : ST S (up2 im (q + 5 + l0) k0 x) q X (upd f (8 + 7 * l0 + k0) x) n n7 := by
  have hn := h.1.1.1
  exact ST_up h (SR_lamp h.1 hl hk) (sam.upd (by omega) (by omega) (by omega)) (RG_upd h.2.2 h0 h1 h2 h3 h4 hk) (by omega) (by omega) (by omega) hX
theorem most_eq {w : Nat} (h1 : 1 ≤ w) (h4 : w ≤ 4) : s_mostC (nI w) = nI (s_most w) := by
  rcases (show w = 1 ∨ w = 2 ∨ w = 3 ∨ w = 4 by omega) with rfl | rfl | rfl | rfl <;> decide +kernel
set_option maxRecDepth 100000 in
set_option maxHeartbeats 4000000 in
theorem c6_lamp (l : Launch) (E : Ex) (S : Sx) (im : Mem) (B : Nat) (hC : CL S B) (X : Nat) (hX : B + 107 ≤ X) (f : Nat → Int32) (n n7 : Nat) (hst : ST S im (B + 1) X f n n7) (k p o u : Int32) : Mt l E yX6_lamp cX6_lamp 5 (some .int) 2 0 0 [.ref B, .int k, .int p, .int o, .int u] S im (pI (pC S im B X n7 (r_lamp n k p o u) (f_lamp f n k p o u))) := by
  refine Mt.of (by decide +kernel) rfl rfl (Nat.le_of_ble_eq_true rfl) ?_
  intro κ hκ C ρ
  subst hκ
  show V E κ 5 0 0 0 [some (.ref B), some (.int k), some (.int p), some (.int o), some (.int u)] [] S im
  have hn10 := hst.1.1.1
  have h14 := hst.2.1.1.1
  have hr := hst.1
  have hT := hst.2.1
  have hg := hst.2.2
  have hX1 : B + 1 + 15 ≤ X := by omega
  refine z_iload_n (pc := 0) C dX6_lamp_0 rfl ?_
  refine kX6_50 (pc := 1) C dX6_lamp_1 (c0_isKind κ.2.1 E S im (k)) (by decide) (Nat.le_of_ble_eq_true rfl) (Nat.le_refl _) (Nat.le_refl _) (fun v_1 S_1 im_1 h_1 => ?_)
  rcases h_1 with ⟨hb_1, rfl, rfl, rfl⟩ | ⟨hb_1, rfl, rfl, rfl⟩
  · 
    refine z_if_eqF (pc := 4) C 39 dX6_lamp_4 (by decide) (by decide) ?_
    refine z_iload_n (pc := 7) C dX6_lamp_7 rfl ?_
    refine z_iconstN (pc := 8) C 0 dX6_lamp_8 ?_
    refine z_bipushN (pc := 9) C 99 (by decide) dX6_lamp_9 ?_
    refine kX6_56 (pc := 11) C dX6_lamp_11 (c6_within κ.2.1 E S im (p) (nI 0) (nI 99)) (by decide) (Nat.le_of_ble_eq_true rfl) (Nat.le_refl _) (Nat.le_refl _) (fun v_11 S_11 im_11 h_11 => ?_)
    rcases h_11 with ⟨hb_11, rfl, rfl, rfl⟩ | ⟨hb_11, rfl, rfl, rfl⟩
    · 
      refine z_if_eqF (pc := 14) C 39 dX6_lamp_14 (by decide) (by decide) ?_
      refine z_iload_n (pc := 17) C dX6_lamp_17 rfl ?_
      refine z_iconstN (pc := 18) C 0 dX6_lamp_18 ?_
      refine z_sipush (v := nI 999) (pc := 19) C dX6_lamp_19 (by decide +kernel) ?_
      refine kX6_56 (pc := 22) C dX6_lamp_22 (c6_within κ.2.1 E S im (o) (nI 0) (nI 999)) (by decide) (Nat.le_of_ble_eq_true rfl) (Nat.le_refl _) (Nat.le_refl _) (fun v_22 S_22 im_22 h_22 => ?_)
      rcases h_22 with ⟨hb_22, rfl, rfl, rfl⟩ | ⟨hb_22, rfl, rfl, rfl⟩
      · 
        refine z_if_eqF (pc := 25) C 39 dX6_lamp_25 (by decide) (by decide) ?_
        refine z_iload (pc := 28) C dX6_lamp_28 rfl ?_
        refine z_iconstN (pc := 30) C 0 dX6_lamp_30 ?_
        refine z_bipushN (pc := 31) C 99 (by decide) dX6_lamp_31 ?_
        refine kX6_56 (pc := 33) C dX6_lamp_33 (c6_within κ.2.1 E S im (u) (nI 0) (nI 99)) (by decide) (Nat.le_of_ble_eq_true rfl) (Nat.le_refl _) (Nat.le_refl _) (fun v_33 S_33 im_33 h_33 => ?_)
        rcases h_33 with ⟨hb_33, rfl, rfl, rfl⟩ | ⟨hb_33, rfl, rfl, rfl⟩
        · 
          refine z_if_neT (pc := 36) C 42 dX6_lamp_36 (by decide) (by decide) ?_
          refine z_aload_n (pc := 42) C dX6_lamp_42 rfl ?_
          refine gX6_10 (pc := 43) C dX6_lamp_43 (cl_K hC) (cl_r0 hC) ?_
          refine gX6_61 (pc := 46) C dX6_lamp_46 (sl_K (cl_s1 hC)) ?_
          refine z_eqi (y := nI n) (hr.1.2.2) ?_
          refine z_bipushN (pc := 49) C 10 (by decide) dX6_lamp_49 ?_
          refine z_icmp_ltN (pc := 51) C 57 dX6_lamp_51 (by decide) (by omega) (by omega) (fun c_51 => ?_) (fun c_51 => ?_)
          · 
            refine z_aload_n (pc := 57) C dX6_lamp_57 rfl ?_
            refine gX6_10 (pc := 58) C dX6_lamp_58 (cl_K hC) (cl_r0 hC) ?_
            refine z_iload_n (pc := 61) C dX6_lamp_61 rfl ?_
            refine z_iload_n (pc := 62) C dX6_lamp_62 rfl ?_
            refine z_iload_n (pc := 63) C dX6_lamp_63 rfl ?_
            refine z_iload (pc := 64) C dX6_lamp_64 rfl ?_
            refine kX6_66 (pc := 66) C dX6_lamp_66 (c3_addLamp κ.2.1 E S im (B + 1) (cl_s1 hC) f n hr c_51 k p o u) (sl_K (cl_s1 hC)) (by decide) (Nat.le_of_ble_eq_true rfl) (Nat.le_refl _) (Nat.le_refl _) (fun S_66 im_66 h_66 => ?_)
            obtain ⟨rfl, g1, g2, g3⟩ := h_66
            refine z_aload_n (pc := 69) C dX6_lamp_69 rfl ?_
            refine gX6_10 (pc := 70) C dX6_lamp_70 (cl_K hC) (cl_r0 hC) ?_
            refine gX6_61 (pc := 73) C dX6_lamp_73 (sl_K (cl_s1 hC)) ?_
            refine z_eqi (y := nI (n + 1)) (g1.1.2.2) ?_
            refine z_iconstN (pc := 76) C 1 dX6_lamp_76 ?_
            refine z_isubN (pc := 77) C dX6_lamp_77 (by omega) ?_
            exact z_iret (pc := 78) C ρ dX6_lamp_78 (⟨_, rfl, by simp only [r_lamp, if_pos hb_1, if_pos hb_11, if_pos hb_22, if_pos hb_33, if_neg (show ¬ n = 10 by omega)]; rfl, SX.rf, ⟨n + 1, by simp only [f_lamp, if_pos hb_1, if_pos hb_11, if_pos hb_22, if_pos hb_33, if_neg (show ¬ n = 10 by omega)]; exact ST_comes hst c_51 g1 g2 g3 hX1 (wi_R hb_1 (by decide) rfl) (wi_R hb_11 (by decide) rfl) (wi_R hb_22 (by decide) rfl) (wi_R hb_33 (by decide) rfl)⟩, fun a h1 h2 h3 => g3 a (by omega) (by omega)⟩)
          · 
            refine z_ldc (pc := 54) C dX6_lamp_54 wk_X6_65 ?_
            exact z_iret (pc := 56) C ρ dX6_lamp_56 (⟨_, rfl, by simp only [r_lamp, if_pos hb_1, if_pos hb_11, if_pos hb_22, if_pos hb_33, if_pos (show n = 10 by omega)], SX.rf, ⟨n, by simp only [f_lamp, if_pos hb_1, if_pos hb_11, if_pos hb_22, if_pos hb_33, if_pos (show n = 10 by omega)]; exact hst⟩, frC.rf⟩)
        · 
          refine z_if_neF (pc := 36) C 42 dX6_lamp_36 (by decide) (by decide) ?_
          refine z_ldc (pc := 39) C dX6_lamp_39 wk_X6_60 ?_
          exact z_iret (pc := 41) C ρ dX6_lamp_41 (⟨_, rfl, by simp only [r_lamp, if_pos hb_1, if_pos hb_11, if_pos hb_22, if_neg hb_33], SX.rf, ⟨n, by simp only [f_lamp, if_pos hb_1, if_pos hb_11, if_pos hb_22, if_neg hb_33]; exact hst⟩, frC.rf⟩)
      · 
        refine z_if_eqT (pc := 25) C 39 dX6_lamp_25 (by decide) (by decide) ?_
        refine z_ldc (pc := 39) C dX6_lamp_39 wk_X6_60 ?_
        exact z_iret (pc := 41) C ρ dX6_lamp_41 (⟨_, rfl, by simp only [r_lamp, if_pos hb_1, if_pos hb_11, if_neg hb_22], SX.rf, ⟨n, by simp only [f_lamp, if_pos hb_1, if_pos hb_11, if_neg hb_22]; exact hst⟩, frC.rf⟩)
    · 
      refine z_if_eqT (pc := 14) C 39 dX6_lamp_14 (by decide) (by decide) ?_
      refine z_ldc (pc := 39) C dX6_lamp_39 wk_X6_60 ?_
      exact z_iret (pc := 41) C ρ dX6_lamp_41 (⟨_, rfl, by simp only [r_lamp, if_pos hb_1, if_neg hb_11], SX.rf, ⟨n, by simp only [f_lamp, if_pos hb_1, if_neg hb_11]; exact hst⟩, frC.rf⟩)
  · 
    refine z_if_eqT (pc := 4) C 39 dX6_lamp_4 (by decide) (by decide) ?_
    refine z_ldc (pc := 39) C dX6_lamp_39 wk_X6_60 ?_
    exact z_iret (pc := 41) C ρ dX6_lamp_41 (⟨_, rfl, by simp only [r_lamp, if_neg hb_1], SX.rf, ⟨n, by simp only [f_lamp, if_neg hb_1]; exact hst⟩, frC.rf⟩)
theorem told_part {f : Nat → Int32} {n n7 l0 w : Nat} (hl : lmp n (nI l0)) (hl0 : l0 < 10) (hw : w ≤ 6) : r_told f n n7 (nI l0) (nI w) = f (8 + 7 * l0 + w) := by
  rw [r_told, if_pos hl, if_pos ((rng (by decide) (by decide)).mpr ⟨w, by omega, by omega, rfl⟩), if_neg (nI_ge (by omega) (by decide)), nI_clamp (by omega), nI_clamp (by omega)]
theorem told_bad {f : Nat → Int32} {n n7 : Nat} {x w : Int32} (h6 : ¬ (nI 0 ≤ w ∧ w ≤ nI 6)) (h7 : ¬ w = nI 7) (h8 : ¬ w = nI 8) : r_told f n n7 x w = -1000000001 := by
  rw [r_told]
  by_cases h : lmp n x
  · rw [if_pos h, if_neg]
    intro hw
    obtain ⟨j, -, hj, rfl⟩ := (rng (by decide) (by decide)).mp hw
    by_cases e7 : j = 7
    · exact h7 (by rw [e7])
    · by_cases e8 : j = 8
      · exact h8 (by rw [e8])
      · exact h6 ((rng (by decide) (by decide)).mpr ⟨j, by omega, by omega, rfl⟩)
  · rw [if_neg h]
set_option maxRecDepth 100000 in
set_option maxHeartbeats 4000000 in
theorem c6_told (l : Launch) (E : Ex) (S : Sx) (im : Mem) (B : Nat) (hC : CL S B) (X : Nat) (hX : B + 107 ≤ X) (f : Nat → Int32) (n n7 : Nat) (hst : ST S im (B + 1) X f n n7) (x w : Int32) : Mt l E yX6_told cX6_told 4 (some .int) 4 0 0 [.ref B, .int x, .int w] S im (pI (pC S im B X n7 (r_told f n n7 x w) (f))) := by
  refine Mt.of (by decide +kernel) rfl rfl (Nat.le_of_ble_eq_true rfl) ?_
  intro κ hκ C ρ
  subst hκ
  show V E κ 4 0 0 0 [some (.ref B), some (.int x), some (.int w), none] [] S im
  have hn10 := hst.1.1.1
  have h14 := hst.2.1.1.1
  have hr := hst.1
  have hT := hst.2.1
  have hg := hst.2.2
  have hX1 : B + 1 + 15 ≤ X := by omega
  refine z_aload_n (pc := 0) C dX6_told_0 rfl ?_
  refine gX6_10 (pc := 1) C dX6_told_1 (cl_K hC) (cl_r0 hC) ?_
  refine z_iload_n (pc := 4) C dX6_told_4 rfl ?_
  refine kX6_70 (pc := 5) C dX6_told_5 (c3_hasLamp κ.2.1 E S im (B + 1) (cl_s1 hC) x n hn10 hr.1.2.2) (sl_K (cl_s1 hC)) (by decide) (Nat.le_of_ble_eq_true rfl) (Nat.le_refl _) (Nat.le_refl _) (fun v_5 S_5 im_5 h_5 => ?_)
  rcases h_5 with ⟨hb_5, rfl, rfl, rfl⟩ | ⟨hb_5, rfl, rfl, rfl⟩
  · 
    obtain ⟨l0, hl0, rfl⟩ := (in_lamp hn10).mp hb_5
    have hcl : (nI l0).toNatClampNeg = l0 := nI_clamp (by omega)
    refine z_if_neT (pc := 8) C 14 dX6_told_8 (by decide) (by decide) ?_
    refine z_aload_n (pc := 14) C dX6_told_14 rfl ?_
    refine gX6_10 (pc := 15) C dX6_told_15 (cl_K hC) (cl_r0 hC) ?_
    refine gX6_73 (pc := 18) C dX6_told_18 (sl_K (cl_s1 hC)) (sl_r0 (cl_s1 hC)) ?_
    refine z_iload_n (pc := 21) C dX6_told_21 rfl ?_
    refine z_aald (pc := 22) C dX6_told_22 (sl_a1 (cl_s1 hC)) (by decide) (sl_n1 (cl_s1 hC)) (by omega) (by decide) (sl_e (cl_s1 hC) (i := l0) (by omega)) ?_
    refine z_astore_n (pc := 23) C dX6_told_23 (by decide) rfl ?_
    refine z_iload_n (pc := 24) C dX6_told_24 rfl ?_
    by_cases hs_7 : w = nI 7
    · 
      refine z_eqi (y := nI 7) hs_7 ?_
      refine z_lookup (off := 27) (pc := 25) C 52 dX6_told_25 (by decide +kernel) (by decide +kernel) (by decide) ?_
      refine z_aload_n (pc := 52) C dX6_told_52 rfl ?_
      refine z_aload_n (pc := 53) C dX6_told_53 rfl ?_
      refine gX6_10 (pc := 54) C dX6_told_54 (cl_K hC) (cl_r0 hC) ?_
      refine z_aload_n (pc := 57) C dX6_told_57 rfl ?_
      refine kX6_77 (pc := 58) C dX6_told_58 (c3_burnAsLamp κ.2.1 E S im (B + 1) (cl_s1 hC) f n hr X n7 hT hX1 hg l0 hl0) (sl_K (cl_s1 hC)) (by decide) (Nat.le_of_ble_eq_true rfl) (Nat.le_refl _) (Nat.le_refl _) (fun v_58 S_58 im_58 h_58 => ?_)
      obtain ⟨rfl, rfl, hfr⟩ := h_58
      refine kX6_81 (pc := 61) C dX6_told_61 (c0_burns κ.2.1 E S im_58 (B + 1 + 5 + l0) (sl_l (cl_s1 hC) (by omega)) (s_plain f n7 (f (8 + 7 * l0 + 2)) (f 4) (f (8 + 7 * l0 + 1)))) (sl_l (cl_s1 hC) (i := l0) (by omega)) (by decide) (Nat.le_of_ble_eq_true rfl) (Nat.le_refl _) (Nat.le_refl _) (fun v_61 S_61 im_61 h_61 => ?_)
      obtain ⟨rfl, rfl, rfl⟩ := h_61
      refine z_eqi (y := s_burns f n7 l0) (by rw [hfr _ (by omega), hr.2.2 l0 hl0 0 (by decide), hr.2.2 l0 hl0 2 (by decide)]; exact bur_eq (s_plain_r (hg.2.2 l0 hl0).2.2.1 hg.1)) ?_
      exact z_iret (pc := 64) C ρ dX6_told_64 (⟨_, rfl, by rw [r_told, if_pos hb_5, hs_7, if_pos (by decide), if_pos (by decide), if_pos rfl, hcl], SX.rf, ⟨n, ST_fr hst (fun a _ _ _ => hfr a (by omega)) (fun a _ h => hfr a (Or.inr h))⟩, fun a _ _ h => hfr a h⟩)
    by_cases hs_8 : w = nI 8
    · 
      refine z_eqi (y := nI 8) hs_8 ?_
      refine z_lookup (off := 40) (pc := 25) C 65 dX6_told_25 (by decide +kernel) (by decide +kernel) (by decide) ?_
      refine z_aload_n (pc := 65) C dX6_told_65 rfl ?_
      refine kX6_85 (pc := 66) C dX6_told_66 (c0_worth κ.2.1 E S im (B + 1 + 5 + l0) (sl_l (cl_s1 hC) (by omega))) (sl_l (cl_s1 hC) (i := l0) (by omega)) (by decide) (Nat.le_of_ble_eq_true rfl) (Nat.le_refl _) (Nat.le_refl _) (fun v_66 S_66 im_66 h_66 => ?_)
      obtain ⟨rfl, rfl, rfl⟩ := h_66
      exact z_iret (pc := 69) C ρ dX6_told_69 (⟨_, rfl, by rw [r_told, if_pos hb_5, hs_8, if_pos (by decide), if_pos (by decide), if_neg (by decide), hcl, hr.2.2 l0 hl0 0 (by decide), hr.2.2 l0 hl0 1 (by decide), wor_eq _ _ (hg.2.2 l0 hl0).2.1], SX.rf, ⟨n, hst⟩, frC.rf⟩)
    refine z_lookup (pc := 25) C 70 dX6_told_25 (by decide +kernel) (off := 45) (by show Op.lookupswitch.offset [(7, 27), (8, 40)] 45 _ = _; rw [lv_osw hs_7 (show (nI 7 : Int32).toInt = 7 by decide), lv_osw hs_8 (show (nI 8 : Int32).toInt = 8 by decide)]; rfl) (by decide) ?_
    refine z_iload_n (pc := 70) C dX6_told_70 rfl ?_
    refine z_iconstN (pc := 71) C 0 dX6_told_71 ?_
    refine z_bipushN (pc := 72) C 6 (by decide) dX6_told_72 ?_
    refine kX6_56 (pc := 74) C dX6_told_74 (c6_within κ.2.1 E S im (w) (nI 0) (nI 6)) (by decide) (Nat.le_of_ble_eq_true rfl) (Nat.le_refl _) (Nat.le_refl _) (fun v_74 S_74 im_74 h_74 => ?_)
    rcases h_74 with ⟨hb_74, rfl, rfl, rfl⟩ | ⟨hb_74, rfl, rfl, rfl⟩
    · 
      obtain ⟨w0, hw00, hw0, rfl⟩ := (rng (by decide) (by decide)).mp hb_74
      refine z_if_eqF (pc := 77) C 88 dX6_told_77 (by decide) (by decide) ?_
      refine z_aload_n (pc := 80) C dX6_told_80 rfl ?_
      refine z_iload_n (pc := 81) C dX6_told_81 rfl ?_
      refine kX6_89 (pc := 82) C dX6_told_82 (c0_part κ.2.1 E S im (B + 1 + 5 + l0) (sl_l (cl_s1 hC) (by omega)) (nI w0)) (sl_l (cl_s1 hC) (i := l0) (by omega)) (by decide) (Nat.le_of_ble_eq_true rfl) (Nat.le_refl _) (Nat.le_refl _) (fun v_82 S_82 im_82 h_82 => ?_)
      obtain ⟨rfl, rfl, rfl⟩ := h_82
      refine z_goto (pc := 85) C 90 dX6_told_85 (by decide) ?_
      exact z_iret (pc := 90) C ρ dX6_told_90 (⟨_, rfl, by rw [told_part hb_5 (by omega) hw0, s_part_w (by omega)]; exact (hr.2.2 l0 hl0 w0 (by omega)).symm, SX.rf, ⟨n, hst⟩, frC.rf⟩)
    · 
      refine z_if_eqT (pc := 77) C 88 dX6_told_77 (by decide) (by decide) ?_
      refine z_ldc (pc := 88) C dX6_told_88 wk_X6_60 ?_
      exact z_iret (pc := 90) C ρ dX6_told_90 (⟨_, rfl, told_bad hb_74 hs_7 hs_8, SX.rf, ⟨n, hst⟩, frC.rf⟩)
  · 
    refine z_if_neF (pc := 8) C 14 dX6_told_8 (by decide) (by decide) ?_
    refine z_ldc (pc := 11) C dX6_told_11 wk_X6_60 ?_
    exact z_iret (pc := 13) C ρ dX6_told_13 (⟨_, rfl, by simp only [r_told, if_neg hb_5], SX.rf, ⟨n, hst⟩, frC.rf⟩)
set_option maxRecDepth 100000 in
set_option maxHeartbeats 4000000 in
theorem c6_drinks (l : Launch) (E : Ex) (S : Sx) (im : Mem) (B : Nat) (hC : CL S B) (X : Nat) (hX : B + 107 ≤ X) (f : Nat → Int32) (n n7 : Nat) (hst : ST S im (B + 1) X f n n7) (x m : Int32) : Mt l E yX6_drinks cX6_drinks 3 (some .int) 3 0 0 [.ref B, .int x, .int m] S im (pI (pC S im B X n7 (r_drinks f n x m) (f))) := by
  refine Mt.of (by decide +kernel) rfl rfl (Nat.le_of_ble_eq_true rfl) ?_
  intro κ hκ C ρ
  subst hκ
  show V E κ 3 0 0 0 [some (.ref B), some (.int x), some (.int m)] [] S im
  have hn10 := hst.1.1.1
  have h14 := hst.2.1.1.1
  have hr := hst.1
  have hT := hst.2.1
  have hg := hst.2.2
  have hX1 : B + 1 + 15 ≤ X := by omega
  refine z_aload_n (pc := 0) C dX6_drinks_0 rfl ?_
  refine gX6_10 (pc := 1) C dX6_drinks_1 (cl_K hC) (cl_r0 hC) ?_
  refine z_iload_n (pc := 4) C dX6_drinks_4 rfl ?_
  refine kX6_70 (pc := 5) C dX6_drinks_5 (c3_hasLamp κ.2.1 E S im (B + 1) (cl_s1 hC) x n hn10 hr.1.2.2) (sl_K (cl_s1 hC)) (by decide) (Nat.le_of_ble_eq_true rfl) (Nat.le_refl _) (Nat.le_refl _) (fun v_5 S_5 im_5 h_5 => ?_)
  rcases h_5 with ⟨hb_5, rfl, rfl, rfl⟩ | ⟨hb_5, rfl, rfl, rfl⟩
  · 
    obtain ⟨l0, hl0, rfl⟩ := (in_lamp hn10).mp hb_5
    have hcl : (nI l0).toNatClampNeg = l0 := nI_clamp (by omega)
    refine z_if_eqF (pc := 8) C 38 dX6_drinks_8 (by decide) (by decide) ?_
    refine z_iload_n (pc := 11) C dX6_drinks_11 rfl ?_
    refine z_iconstN (pc := 12) C 0 dX6_drinks_12 ?_
    refine z_sipush (v := nI 999) (pc := 13) C dX6_drinks_13 (by decide +kernel) ?_
    refine kX6_56 (pc := 16) C dX6_drinks_16 (c6_within κ.2.1 E S im (m) (nI 0) (nI 999)) (by decide) (Nat.le_of_ble_eq_true rfl) (Nat.le_refl _) (Nat.le_refl _) (fun v_16 S_16 im_16 h_16 => ?_)
    rcases h_16 with ⟨hb_16, rfl, rfl, rfl⟩ | ⟨hb_16, rfl, rfl, rfl⟩
    · 
      refine z_if_eqF (pc := 19) C 38 dX6_drinks_19 (by decide) (by decide) ?_
      refine z_aload_n (pc := 22) C dX6_drinks_22 rfl ?_
      refine gX6_10 (pc := 23) C dX6_drinks_23 (cl_K hC) (cl_r0 hC) ?_
      refine gX6_73 (pc := 26) C dX6_drinks_26 (sl_K (cl_s1 hC)) (sl_r0 (cl_s1 hC)) ?_
      refine z_iload_n (pc := 29) C dX6_drinks_29 rfl ?_
      refine z_aald (pc := 30) C dX6_drinks_30 (sl_a1 (cl_s1 hC)) (by decide) (sl_n1 (cl_s1 hC)) (by omega) (by decide) (sl_e (cl_s1 hC) (i := l0) (by omega)) ?_
      refine z_iload_n (pc := 31) C dX6_drinks_31 rfl ?_
      refine kX6_92 (pc := 32) C dX6_drinks_32 (c0_drunkIn κ.2.1 E S im (B + 1 + 5 + l0) (sl_l (cl_s1 hC) (by omega)) m) (sl_l (cl_s1 hC) (i := l0) (by omega)) (by decide) (Nat.le_of_ble_eq_true rfl) (Nat.le_refl _) (Nat.le_refl _) (fun v_32 S_32 im_32 h_32 => ?_)
      obtain ⟨rfl, rfl, rfl⟩ := h_32
      refine z_goto (pc := 35) C 40 dX6_drinks_35 (by decide) ?_
      exact z_iret (pc := 40) C ρ dX6_drinks_40 (⟨_, rfl, by simp only [r_drinks, if_pos hb_5, if_pos hb_16, hcl]; rw [hr.2.2 l0 hl0 0 (by decide), hr.2.2 l0 hl0 2 (by decide)]; exact (dr_eq (hg.2.2 l0 hl0).2.2.1 (inR_wk (wi_R hb_16 (by decide) rfl) (by decide) (by decide))).symm, SX.rf, ⟨n, hst⟩, frC.rf⟩)
    · 
      refine z_if_eqT (pc := 19) C 38 dX6_drinks_19 (by decide) (by decide) ?_
      refine z_ldc (pc := 38) C dX6_drinks_38 wk_X6_60 ?_
      exact z_iret (pc := 40) C ρ dX6_drinks_40 (⟨_, rfl, by simp only [r_drinks, if_pos hb_5, if_neg hb_16], SX.rf, ⟨n, hst⟩, frC.rf⟩)
  · 
    refine z_if_eqT (pc := 8) C 38 dX6_drinks_8 (by decide) (by decide) ?_
    refine z_ldc (pc := 38) C dX6_drinks_38 wk_X6_60 ?_
    exact z_iret (pc := 40) C ρ dX6_drinks_40 (⟨_, rfl, by simp only [r_drinks, if_neg hb_5], SX.rf, ⟨n, hst⟩, frC.rf⟩)
set_option maxRecDepth 100000 in
set_option maxHeartbeats 4000000 in
theorem c6_as (l : Launch) (E : Ex) (S : Sx) (im : Mem) (B : Nat) (hC : CL S B) (X : Nat) (hX : B + 107 ≤ X) (f : Nat → Int32) (n n7 : Nat) (hst : ST S im (B + 1) X f n n7) (x k : Int32) : Mt l E yX6_as cX6_as 3 (some .int) 3 0 0 [.ref B, .int x, .int k] S im (pI (pC S im B X n7 (r_as f n x k) (f))) := by
  refine Mt.of (by decide +kernel) rfl rfl (Nat.le_of_ble_eq_true rfl) ?_
  intro κ hκ C ρ
  subst hκ
  show V E κ 3 0 0 0 [some (.ref B), some (.int x), some (.int k)] [] S im
  have hn10 := hst.1.1.1
  have h14 := hst.2.1.1.1
  have hr := hst.1
  have hT := hst.2.1
  have hg := hst.2.2
  have hX1 : B + 1 + 15 ≤ X := by omega
  refine z_aload_n (pc := 0) C dX6_as_0 rfl ?_
  refine gX6_10 (pc := 1) C dX6_as_1 (cl_K hC) (cl_r0 hC) ?_
  refine z_iload_n (pc := 4) C dX6_as_4 rfl ?_
  refine kX6_70 (pc := 5) C dX6_as_5 (c3_hasLamp κ.2.1 E S im (B + 1) (cl_s1 hC) x n hn10 hr.1.2.2) (sl_K (cl_s1 hC)) (by decide) (Nat.le_of_ble_eq_true rfl) (Nat.le_refl _) (Nat.le_refl _) (fun v_5 S_5 im_5 h_5 => ?_)
  rcases h_5 with ⟨hb_5, rfl, rfl, rfl⟩ | ⟨hb_5, rfl, rfl, rfl⟩
  · 
    obtain ⟨l0, hl0, rfl⟩ := (in_lamp hn10).mp hb_5
    have hcl : (nI l0).toNatClampNeg = l0 := nI_clamp (by omega)
    refine z_if_eqF (pc := 8) C 18 dX6_as_8 (by decide) (by decide) ?_
    refine z_iload_n (pc := 11) C dX6_as_11 rfl ?_
    refine kX6_50 (pc := 12) C dX6_as_12 (c0_isKind κ.2.1 E S im (k)) (by decide) (Nat.le_of_ble_eq_true rfl) (Nat.le_refl _) (Nat.le_refl _) (fun v_12 S_12 im_12 h_12 => ?_)
    rcases h_12 with ⟨hb_12, rfl, rfl, rfl⟩ | ⟨hb_12, rfl, rfl, rfl⟩
    · 
      obtain ⟨w0, hw00, hw0, rfl⟩ := (rng (by decide) (by decide)).mp hb_12
      obtain ⟨k0, hk0, ek0⟩ := inR_nI (k := 5) (hg.2.2 l0 hl0).1
      refine z_if_neT (pc := 15) C 21 dX6_as_15 (by decide) (by decide) ?_
      refine z_aload_n (pc := 21) C dX6_as_21 rfl ?_
      refine gX6_10 (pc := 22) C dX6_as_22 (cl_K hC) (cl_r0 hC) ?_
      refine gX6_73 (pc := 25) C dX6_as_25 (sl_K (cl_s1 hC)) (sl_r0 (cl_s1 hC)) ?_
      refine z_iload_n (pc := 28) C dX6_as_28 rfl ?_
      refine z_aald (pc := 29) C dX6_as_29 (sl_a1 (cl_s1 hC)) (by decide) (sl_n1 (cl_s1 hC)) (by omega) (by decide) (sl_e (cl_s1 hC) (i := l0) (by omega)) ?_
      refine z_iload_n (pc := 30) C dX6_as_30 rfl ?_
      refine kX6_95 (pc := 31) C dX6_as_31 (c0_isOf κ.2.1 E S im (B + 1 + 5 + l0) (sl_l (cl_s1 hC) (by omega)) k0 w0 (by omega) (by omega) (by rw [hr.2.2 l0 hl0 0 (by decide)]; exact ek0)) (sl_l (cl_s1 hC) (i := l0) (by omega)) (by decide) (Nat.le_of_ble_eq_true rfl) (Nat.le_refl _) (Nat.le_refl _) (fun v_31 S_31 im_31 h_31 => ?_)
      rcases h_31 with ⟨hb_31, rfl, rfl, rfl⟩ | ⟨hb_31, rfl, rfl, rfl⟩
      · 
        rw [s_under, ← ek0] at hb_31
        refine z_if_eqF (pc := 34) C 52 dX6_as_34 (by decide) (by decide) ?_
        refine z_aload_n (pc := 37) C dX6_as_37 rfl ?_
        refine gX6_10 (pc := 38) C dX6_as_38 (cl_K hC) (cl_r0 hC) ?_
        refine gX6_73 (pc := 41) C dX6_as_41 (sl_K (cl_s1 hC)) (sl_r0 (cl_s1 hC)) ?_
        refine z_iload_n (pc := 44) C dX6_as_44 rfl ?_
        refine z_aald (pc := 45) C dX6_as_45 (sl_a1 (cl_s1 hC)) (by decide) (sl_n1 (cl_s1 hC)) (by omega) (by decide) (sl_e (cl_s1 hC) (i := l0) (by omega)) ?_
        refine gX6_98 (pc := 46) C dX6_as_46 (sl_l (cl_s1 hC) (i := l0) (by omega)) ?_
        refine z_eqi (y := f (8 + 7 * l0 + 1)) (hr.2.2 l0 hl0 1 (by decide)) ?_
        refine z_goto (pc := 49) C 54 dX6_as_49 (by decide) ?_
        exact z_iret (pc := 54) C ρ dX6_as_54 (⟨_, rfl, by simp only [r_as, if_pos hb_5, if_pos hb_12, if_pos hb_31, hcl], SX.rf, ⟨n, hst⟩, frC.rf⟩)
      · 
        rw [s_under, ← ek0] at hb_31
        refine z_if_eqT (pc := 34) C 52 dX6_as_34 (by decide) (by decide) ?_
        refine z_ldc (pc := 52) C dX6_as_52 wk_X6_101 ?_
        exact z_iret (pc := 54) C ρ dX6_as_54 (⟨_, rfl, by simp only [r_as, if_pos hb_5, if_pos hb_12, if_neg hb_31, hcl], SX.rf, ⟨n, hst⟩, frC.rf⟩)
    · 
      refine z_if_neF (pc := 15) C 21 dX6_as_15 (by decide) (by decide) ?_
      refine z_ldc (pc := 18) C dX6_as_18 wk_X6_60 ?_
      exact z_iret (pc := 20) C ρ dX6_as_20 (⟨_, rfl, by simp only [r_as, if_pos hb_5, if_neg hb_12], SX.rf, ⟨n, hst⟩, frC.rf⟩)
  · 
    refine z_if_eqT (pc := 8) C 18 dX6_as_8 (by decide) (by decide) ?_
    refine z_ldc (pc := 18) C dX6_as_18 wk_X6_60 ?_
    exact z_iret (pc := 20) C ρ dX6_as_20 (⟨_, rfl, by simp only [r_as, if_neg hb_5], SX.rf, ⟨n, hst⟩, frC.rf⟩)
set_option maxRecDepth 100000 in
set_option maxHeartbeats 4000000 in
theorem c6_turns (l : Launch) (E : Ex) (S : Sx) (im : Mem) (B : Nat) (hC : CL S B) (X : Nat) (hX : B + 107 ≤ X) (f : Nat → Int32) (n n7 : Nat) (hst : ST S im (B + 1) X f n n7) (x k : Int32) : Mt l E yX6_turns cX6_turns 4 (some .int) 2 0 0 [.ref B, .int x, .int k] S im (pI (pC S im B X n7 (r_turns f n x k) (f_turns f n x k))) := by
  refine Mt.of (by decide +kernel) rfl rfl (Nat.le_of_ble_eq_true rfl) ?_
  intro κ hκ C ρ
  subst hκ
  show V E κ 4 0 0 0 [some (.ref B), some (.int x), some (.int k), none] [] S im
  have hn10 := hst.1.1.1
  have h14 := hst.2.1.1.1
  have hr := hst.1
  have hT := hst.2.1
  have hg := hst.2.2
  have hX1 : B + 1 + 15 ≤ X := by omega
  refine z_aload_n (pc := 0) C dX6_turns_0 rfl ?_
  refine gX6_10 (pc := 1) C dX6_turns_1 (cl_K hC) (cl_r0 hC) ?_
  refine z_iload_n (pc := 4) C dX6_turns_4 rfl ?_
  refine kX6_70 (pc := 5) C dX6_turns_5 (c3_hasLamp κ.2.1 E S im (B + 1) (cl_s1 hC) x n hn10 hr.1.2.2) (sl_K (cl_s1 hC)) (by decide) (Nat.le_of_ble_eq_true rfl) (Nat.le_refl _) (Nat.le_refl _) (fun v_5 S_5 im_5 h_5 => ?_)
  rcases h_5 with ⟨hb_5, rfl, rfl, rfl⟩ | ⟨hb_5, rfl, rfl, rfl⟩
  · 
    obtain ⟨l0, hl0, rfl⟩ := (in_lamp hn10).mp hb_5
    have hcl : (nI l0).toNatClampNeg = l0 := nI_clamp (by omega)
    refine z_if_eqF (pc := 8) C 18 dX6_turns_8 (by decide) (by decide) ?_
    refine z_iload_n (pc := 11) C dX6_turns_11 rfl ?_
    refine kX6_50 (pc := 12) C dX6_turns_12 (c0_isKind κ.2.1 E S im (k)) (by decide) (Nat.le_of_ble_eq_true rfl) (Nat.le_refl _) (Nat.le_refl _) (fun v_12 S_12 im_12 h_12 => ?_)
    rcases h_12 with ⟨hb_12, rfl, rfl, rfl⟩ | ⟨hb_12, rfl, rfl, rfl⟩
    · 
      refine z_if_neT (pc := 15) C 21 dX6_turns_15 (by decide) (by decide) ?_
      refine z_aload_n (pc := 21) C dX6_turns_21 rfl ?_
      refine gX6_10 (pc := 22) C dX6_turns_22 (cl_K hC) (cl_r0 hC) ?_
      refine gX6_73 (pc := 25) C dX6_turns_25 (sl_K (cl_s1 hC)) (sl_r0 (cl_s1 hC)) ?_
      refine z_iload_n (pc := 28) C dX6_turns_28 rfl ?_
      refine z_aald (pc := 29) C dX6_turns_29 (sl_a1 (cl_s1 hC)) (by decide) (sl_n1 (cl_s1 hC)) (by omega) (by decide) (sl_e (cl_s1 hC) (i := l0) (by omega)) ?_
      refine gX6_102 (pc := 30) C dX6_turns_30 (sl_l (cl_s1 hC) (i := l0) (by omega)) ?_
      refine z_eqi (y := f (8 + 7 * l0 + 0)) (hr.2.2 l0 hl0 0 (by decide)) ?_
      refine z_istore_n (pc := 33) C dX6_turns_33 (by decide) rfl ?_
      refine z_aload_n (pc := 34) C dX6_turns_34 rfl ?_
      refine gX6_10 (pc := 35) C dX6_turns_35 (cl_K hC) (cl_r0 hC) ?_
      refine gX6_73 (pc := 38) C dX6_turns_38 (sl_K (cl_s1 hC)) (sl_r0 (cl_s1 hC)) ?_
      refine z_iload_n (pc := 41) C dX6_turns_41 rfl ?_
      refine z_aald (pc := 42) C dX6_turns_42 (sl_a1 (cl_s1 hC)) (by decide) (sl_n1 (cl_s1 hC)) (by omega) (by decide) (sl_e (cl_s1 hC) (i := l0) (by omega)) ?_
      refine z_iload_n (pc := 43) C dX6_turns_43 rfl ?_
      refine pX6_102 (pc := 44) C dX6_turns_44 (sl_l (cl_s1 hC) (i := l0) (by omega)) ?_
      refine z_iload_n (pc := 47) C dX6_turns_47 rfl ?_
      exact z_iret (pc := 48) C ρ dX6_turns_48 (⟨_, rfl, by simp only [r_turns, if_pos hb_5, if_pos hb_12, hcl]; rfl, SX.rf, ⟨n, by simp only [f_turns, if_pos hb_5, if_pos hb_12, hcl]; exact ST_lamp hst hl0 (by decide) (fun _ => wi_R hb_12 (by decide) rfl) (fun h => by cases h) (fun h => by cases h) (fun h => by cases h) (fun h => by cases h) hX1⟩, frC.rf.up (by omega)⟩)
    · 
      refine z_if_neF (pc := 15) C 21 dX6_turns_15 (by decide) (by decide) ?_
      refine z_ldc (pc := 18) C dX6_turns_18 wk_X6_60 ?_
      exact z_iret (pc := 20) C ρ dX6_turns_20 (⟨_, rfl, by simp only [r_turns, if_pos hb_5, if_neg hb_12], SX.rf, ⟨n, by simp only [f_turns, if_pos hb_5, if_neg hb_12]; exact hst⟩, frC.rf⟩)
  · 
    refine z_if_eqT (pc := 8) C 18 dX6_turns_8 (by decide) (by decide) ?_
    refine z_ldc (pc := 18) C dX6_turns_18 wk_X6_60 ?_
    exact z_iret (pc := 20) C ρ dX6_turns_20 (⟨_, rfl, by simp only [r_turns, if_neg hb_5], SX.rf, ⟨n, by simp only [f_turns, if_neg hb_5]; exact hst⟩, frC.rf⟩)
set_option maxRecDepth 100000 in
set_option maxHeartbeats 4000000 in
theorem c6_set (l : Launch) (E : Ex) (S : Sx) (im : Mem) (B : Nat) (hC : CL S B) (X : Nat) (hX : B + 107 ≤ X) (f : Nat → Int32) (n n7 : Nat) (hst : ST S im (B + 1) X f n n7) (x w v0 : Int32) : Mt l E yX6_set cX6_set 6 (some .int) 2 0 0 [.ref B, .int x, .int w, .int v0] S im (pI (pC S im B X n7 (r_set f n x w v0) (f_set f n x w v0))) := by
  refine Mt.of (by decide +kernel) rfl rfl (Nat.le_of_ble_eq_true rfl) ?_
  intro κ hκ C ρ
  subst hκ
  show V E κ 6 0 0 0 [some (.ref B), some (.int x), some (.int w), some (.int v0), none, none] [] S im
  have hn10 := hst.1.1.1
  have h14 := hst.2.1.1.1
  have hr := hst.1
  have hT := hst.2.1
  have hg := hst.2.2
  have hX1 : B + 1 + 15 ≤ X := by omega
  refine z_aload_n (pc := 0) C dX6_set_0 rfl ?_
  refine gX6_10 (pc := 1) C dX6_set_1 (cl_K hC) (cl_r0 hC) ?_
  refine z_iload_n (pc := 4) C dX6_set_4 rfl ?_
  refine kX6_70 (pc := 5) C dX6_set_5 (c3_hasLamp κ.2.1 E S im (B + 1) (cl_s1 hC) x n hn10 hr.1.2.2) (sl_K (cl_s1 hC)) (by decide) (Nat.le_of_ble_eq_true rfl) (Nat.le_refl _) (Nat.le_refl _) (fun v_5 S_5 im_5 h_5 => ?_)
  rcases h_5 with ⟨hb_5, rfl, rfl, rfl⟩ | ⟨hb_5, rfl, rfl, rfl⟩
  · 
    obtain ⟨l0, hl0, rfl⟩ := (in_lamp hn10).mp hb_5
    have hcl : (nI l0).toNatClampNeg = l0 := nI_clamp (by omega)
    refine z_if_eqF (pc := 8) C 32 dX6_set_8 (by decide) (by decide) ?_
    refine z_iload_n (pc := 11) C dX6_set_11 rfl ?_
    refine z_iconstN (pc := 12) C 1 dX6_set_12 ?_
    refine z_iconstN (pc := 13) C 4 dX6_set_13 ?_
    refine kX6_56 (pc := 14) C dX6_set_14 (c6_within κ.2.1 E S im (w) (nI 1) (nI 4)) (by decide) (Nat.le_of_ble_eq_true rfl) (Nat.le_refl _) (Nat.le_refl _) (fun v_14 S_14 im_14 h_14 => ?_)
    rcases h_14 with ⟨hb_14, rfl, rfl, rfl⟩ | ⟨hb_14, rfl, rfl, rfl⟩
    · 
      obtain ⟨w0, hw00, hw0, rfl⟩ := (rng (by decide) (by decide)).mp hb_14
      have hcw : (nI w0).toNatClampNeg = w0 := nI_clamp (by omega)
      refine z_if_eqF (pc := 17) C 32 dX6_set_17 (by decide) (by decide) ?_
      refine z_iload_n (pc := 20) C dX6_set_20 rfl ?_
      refine z_iconstN (pc := 21) C 0 dX6_set_21 ?_
      refine z_iload_n (pc := 22) C dX6_set_22 rfl ?_
      refine kX6_105 (pc := 23) C dX6_set_23 (c6_mostOf κ.2.1 E S im (nI w0)) (by decide) (Nat.le_of_ble_eq_true rfl) (Nat.le_refl _) (Nat.le_refl _) (fun v_23 S_23 im_23 h_23 => ?_)
      obtain ⟨rfl, rfl, rfl⟩ := h_23
      refine z_eqi (y := nI (s_most w0)) (most_eq hw00 hw0) ?_
      refine kX6_56 (pc := 26) C dX6_set_26 (c6_within κ.2.1 E S im v0 (nI 0) (nI (s_most w0))) (by decide) (Nat.le_of_ble_eq_true rfl) (Nat.le_refl _) (Nat.le_refl _) (fun v_26 S_26 im_26 h_26 => ?_)
      rcases h_26 with ⟨hb_26, rfl, rfl, rfl⟩ | ⟨hb_26, rfl, rfl, rfl⟩
      · 
        refine z_if_neT (pc := 29) C 35 dX6_set_29 (by decide) (by decide) ?_
        refine z_aload_n (pc := 35) C dX6_set_35 rfl ?_
        refine gX6_10 (pc := 36) C dX6_set_36 (cl_K hC) (cl_r0 hC) ?_
        refine gX6_73 (pc := 39) C dX6_set_39 (sl_K (cl_s1 hC)) (sl_r0 (cl_s1 hC)) ?_
        refine z_iload_n (pc := 42) C dX6_set_42 rfl ?_
        refine z_aald (pc := 43) C dX6_set_43 (sl_a1 (cl_s1 hC)) (by decide) (sl_n1 (cl_s1 hC)) (by omega) (by decide) (sl_e (cl_s1 hC) (i := l0) (by omega)) ?_
        refine z_astore (pc := 44) C dX6_set_44 (by decide) rfl ?_
        refine z_aload (pc := 46) C dX6_set_46 rfl ?_
        refine z_iload_n (pc := 48) C dX6_set_48 rfl ?_
        refine kX6_89 (pc := 49) C dX6_set_49 (c0_part κ.2.1 E S im (B + 1 + 5 + l0) (sl_l (cl_s1 hC) (by omega)) (nI w0)) (sl_l (cl_s1 hC) (i := l0) (by omega)) (by decide) (Nat.le_of_ble_eq_true rfl) (Nat.le_refl _) (Nat.le_refl _) (fun v_49 S_49 im_49 h_49 => ?_)
        obtain ⟨rfl, rfl, rfl⟩ := h_49
        refine z_eqi (y := f (8 + 7 * l0 + w0)) (by rw [s_part_w (by omega)]; exact hr.2.2 l0 hl0 w0 (by omega)) ?_
        refine z_istore (pc := 52) C dX6_set_52 (by decide) rfl ?_
        refine z_iload_n (pc := 54) C dX6_set_54 rfl ?_
        by_cases hs_1 : nI w0 = nI 1
        · 
          refine z_eqi (y := nI 1) hs_1 ?_
          refine z_tableIn (off := 25) (pc := 55) C 80 dX6_set_55 (by decide) (by decide) (by decide +kernel) (by decide) ?_
          refine z_aload (pc := 80) C dX6_set_80 rfl ?_
          refine z_iload_n (pc := 82) C dX6_set_82 rfl ?_
          refine pX6_98 (pc := 83) C dX6_set_83 (sl_l (cl_s1 hC) (i := l0) (by omega)) ?_
          refine z_goto (pc := 86) C 113 dX6_set_86 (by decide) ?_
          refine z_iload (pc := 113) C dX6_set_113 rfl ?_
          have e : w0 = 1 := (nI_eq (by omega) (by omega)).mp hs_1
          subst e
          exact z_iret (pc := 115) C ρ dX6_set_115 (⟨_, rfl, by simp only [r_set, if_pos hb_5, if_pos hb_14, if_pos hb_26, hcl, hcw], SX.rf, ⟨n, by simp only [f_set, if_pos hb_5, if_pos hb_14, if_pos hb_26, hcl, hcw]; exact ST_lamp hst hl0 (by decide) (fun h => by cases h) (fun _ => wi_R hb_26 (by decide) rfl) (fun h => by cases h) (fun h => by cases h) (fun h => by cases h) hX1⟩, frC.rf.up (by omega)⟩)
        by_cases hs_2 : nI w0 = nI 2
        · 
          refine z_eqi (y := nI 2) hs_2 ?_
          refine z_tableIn (off := 34) (pc := 55) C 89 dX6_set_55 (by decide) (by decide) (by decide +kernel) (by decide) ?_
          refine z_aload (pc := 89) C dX6_set_89 rfl ?_
          refine z_iload_n (pc := 91) C dX6_set_91 rfl ?_
          refine pX6_108 (pc := 92) C dX6_set_92 (sl_l (cl_s1 hC) (i := l0) (by omega)) ?_
          refine z_goto (pc := 95) C 113 dX6_set_95 (by decide) ?_
          refine z_iload (pc := 113) C dX6_set_113 rfl ?_
          have e : w0 = 2 := (nI_eq (by omega) (by omega)).mp hs_2
          subst e
          exact z_iret (pc := 115) C ρ dX6_set_115 (⟨_, rfl, by simp only [r_set, if_pos hb_5, if_pos hb_14, if_pos hb_26, hcl, hcw], SX.rf, ⟨n, by simp only [f_set, if_pos hb_5, if_pos hb_14, if_pos hb_26, hcl, hcw]; exact ST_lamp hst hl0 (by decide) (fun h => by cases h) (fun h => by cases h) (fun _ => wi_R hb_26 (by decide) rfl) (fun h => by cases h) (fun h => by cases h) hX1⟩, frC.rf.up (by omega)⟩)
        by_cases hs_3 : nI w0 = nI 3
        · 
          refine z_eqi (y := nI 3) hs_3 ?_
          refine z_tableIn (off := 43) (pc := 55) C 98 dX6_set_55 (by decide) (by decide) (by decide +kernel) (by decide) ?_
          refine z_aload (pc := 98) C dX6_set_98 rfl ?_
          refine z_iload_n (pc := 100) C dX6_set_100 rfl ?_
          refine pX6_111 (pc := 101) C dX6_set_101 (sl_l (cl_s1 hC) (i := l0) (by omega)) ?_
          refine z_goto (pc := 104) C 113 dX6_set_104 (by decide) ?_
          refine z_iload (pc := 113) C dX6_set_113 rfl ?_
          have e : w0 = 3 := (nI_eq (by omega) (by omega)).mp hs_3
          subst e
          exact z_iret (pc := 115) C ρ dX6_set_115 (⟨_, rfl, by simp only [r_set, if_pos hb_5, if_pos hb_14, if_pos hb_26, hcl, hcw], SX.rf, ⟨n, by simp only [f_set, if_pos hb_5, if_pos hb_14, if_pos hb_26, hcl, hcw]; exact ST_lamp hst hl0 (by decide) (fun h => by cases h) (fun h => by cases h) (fun h => by cases h) (fun _ => wi_R hb_26 (by decide) rfl) (fun h => by cases h) hX1⟩, frC.rf.up (by omega)⟩)
        refine z_tableOut (pc := 55) C 107 dX6_set_55 (by have q_0 := lv_neT hs_1 (show (nI 1 : Int32).toInt = 1 by decide); have q_1 := lv_neT hs_2 (show (nI 2 : Int32).toInt = 2 by decide); have q_2 := lv_neT hs_3 (show (nI 3 : Int32).toInt = 3 by decide); omega) (by decide) ?_
        refine z_aload (pc := 107) C dX6_set_107 rfl ?_
        refine z_iload_n (pc := 109) C dX6_set_109 rfl ?_
        refine pX6_114 (pc := 110) C dX6_set_110 (sl_l (cl_s1 hC) (i := l0) (by omega)) ?_
        refine z_iload (pc := 113) C dX6_set_113 rfl ?_
        have e : w0 = 4 := (by have h1 : ¬ w0 = 1 := (fun h => hs_1 (by rw [h])); have h2 : ¬ w0 = 2 := (fun h => hs_2 (by rw [h])); have h3 : ¬ w0 = 3 := (fun h => hs_3 (by rw [h])); omega)
        subst e
        exact z_iret (pc := 115) C ρ dX6_set_115 (⟨_, rfl, by simp only [r_set, if_pos hb_5, if_pos hb_14, if_pos hb_26, hcl, hcw], SX.rf, ⟨n, by simp only [f_set, if_pos hb_5, if_pos hb_14, if_pos hb_26, hcl, hcw]; exact ST_lamp hst hl0 (by decide) (fun h => by cases h) (fun h => by cases h) (fun h => by cases h) (fun h => by cases h) (fun _ => wi_R hb_26 (by decide) rfl) hX1⟩, frC.rf.up (by omega)⟩)
      · 
        refine z_if_neF (pc := 29) C 35 dX6_set_29 (by decide) (by decide) ?_
        refine z_ldc (pc := 32) C dX6_set_32 wk_X6_60 ?_
        exact z_iret (pc := 34) C ρ dX6_set_34 (⟨_, rfl, by simp only [r_set, if_pos hb_5, if_pos hb_14, if_neg hb_26, hcl, hcw], SX.rf, ⟨n, by simp only [f_set, if_pos hb_5, if_pos hb_14, if_neg hb_26, hcl, hcw]; exact hst⟩, frC.rf⟩)
    · 
      refine z_if_eqT (pc := 17) C 32 dX6_set_17 (by decide) (by decide) ?_
      refine z_ldc (pc := 32) C dX6_set_32 wk_X6_60 ?_
      exact z_iret (pc := 34) C ρ dX6_set_34 (⟨_, rfl, by simp only [r_set, if_pos hb_5, if_neg hb_14], SX.rf, ⟨n, by simp only [f_set, if_pos hb_5, if_neg hb_14]; exact hst⟩, frC.rf⟩)
  · 
    refine z_if_eqT (pc := 8) C 32 dX6_set_8 (by decide) (by decide) ?_
    refine z_ldc (pc := 32) C dX6_set_32 wk_X6_60 ?_
    exact z_iret (pc := 34) C ρ dX6_set_34 (⟨_, rfl, by simp only [r_set, if_neg hb_5], SX.rf, ⟨n, by simp only [f_set, if_neg hb_5]; exact hst⟩, frC.rf⟩)
set_option maxRecDepth 100000 in
set_option maxHeartbeats 4000000 in
theorem c6_seed (l : Launch) (E : Ex) (S : Sx) (im : Mem) (B : Nat) (hC : CL S B) (X : Nat) (hX : B + 107 ≤ X) (f : Nat → Int32) (n n7 : Nat) (hst : ST S im (B + 1) X f n n7) (x : Int32) : Mt l E yX6_seed cX6_seed 3 (some .int) 1 0 0 [.ref B, .int x] S im (pI (pC S im B X n7 (f 0) (upd f 0 x))) := by
  refine Mt.of (by decide +kernel) rfl rfl (Nat.le_of_ble_eq_true rfl) ?_
  intro κ hκ C ρ
  subst hκ
  show V E κ 3 0 0 0 [some (.ref B), some (.int x), none] [] S im
  have hn10 := hst.1.1.1
  have h14 := hst.2.1.1.1
  have hr := hst.1
  have hT := hst.2.1
  have hg := hst.2.2
  have hX1 : B + 1 + 15 ≤ X := by omega
  refine z_aload_n (pc := 0) C dX6_seed_0 rfl ?_
  refine gX6_10 (pc := 1) C dX6_seed_1 (cl_K hC) (cl_r0 hC) ?_
  refine gX6_126 (pc := 4) C dX6_seed_4 (sl_K (cl_s1 hC)) ?_
  refine z_eqi (y := f 0) (hr.2.1.1) ?_
  refine z_istore_n (pc := 7) C dX6_seed_7 (by decide) rfl ?_
  refine z_aload_n (pc := 8) C dX6_seed_8 rfl ?_
  refine gX6_10 (pc := 9) C dX6_seed_9 (cl_K hC) (cl_r0 hC) ?_
  refine z_iload_n (pc := 12) C dX6_seed_12 rfl ?_
  refine pX6_126 (pc := 13) C dX6_seed_13 (sl_K (cl_s1 hC)) ?_
  refine z_iload_n (pc := 16) C dX6_seed_16 rfl ?_
  exact z_iret (pc := 17) C ρ dX6_seed_17 (⟨_, rfl, rfl, SX.rf, ⟨n, ST_up hst (SR_h0 hr) (sam.upd (by decide) (by decide) (by decide)) (RG_hd hg (upd_n _ _ (by decide)) (upd_n _ _ (by decide)) (fun j hj _ => upd_n _ _ (by omega))) (by omega) (by omega) (by omega) hX1⟩, frC.rf.up (by omega)⟩)
set_option maxRecDepth 100000 in
set_option maxHeartbeats 4000000 in
theorem c6_order (l : Launch) (E : Ex) (S : Sx) (im : Mem) (B : Nat) (hC : CL S B) (X : Nat) (hX : B + 107 ≤ X) (f : Nat → Int32) (n n7 : Nat) (hst : ST S im (B + 1) X f n n7) (x : Int32) : Mt l E yX6_order cX6_order 2 (some .int) 3 0 0 [.ref B, .int x] S im (pI (pC S im B X n7 (r_order f n x) (f))) := by
  refine Mt.of (by decide +kernel) rfl rfl (Nat.le_of_ble_eq_true rfl) ?_
  intro κ hκ C ρ
  subst hκ
  show V E κ 2 0 0 0 [some (.ref B), some (.int x)] [] S im
  have hn10 := hst.1.1.1
  have h14 := hst.2.1.1.1
  have hr := hst.1
  have hT := hst.2.1
  have hg := hst.2.2
  have hX1 : B + 1 + 15 ≤ X := by omega
  refine z_aload_n (pc := 0) C dX6_order_0 rfl ?_
  refine gX6_10 (pc := 1) C dX6_order_1 (cl_K hC) (cl_r0 hC) ?_
  refine z_iload_n (pc := 4) C dX6_order_4 rfl ?_
  refine kX6_70 (pc := 5) C dX6_order_5 (c3_hasLamp κ.2.1 E S im (B + 1) (cl_s1 hC) x n hn10 hr.1.2.2) (sl_K (cl_s1 hC)) (by decide) (Nat.le_of_ble_eq_true rfl) (Nat.le_refl _) (Nat.le_refl _) (fun v_5 S_5 im_5 h_5 => ?_)
  rcases h_5 with ⟨hb_5, rfl, rfl, rfl⟩ | ⟨hb_5, rfl, rfl, rfl⟩
  · 
    obtain ⟨l0, hl0, rfl⟩ := (in_lamp hn10).mp hb_5
    have hcl : (nI l0).toNatClampNeg = l0 := nI_clamp (by omega)
    refine z_if_neT (pc := 8) C 14 dX6_order_8 (by decide) (by decide) ?_
    refine z_aload_n (pc := 14) C dX6_order_14 rfl ?_
    refine gX6_10 (pc := 15) C dX6_order_15 (cl_K hC) (cl_r0 hC) ?_
    refine kX6_138 (pc := 18) C dX6_order_18 (c3_lineUp κ.2.1 E S im (B + 1) (cl_s1 hC) f n hr) (sl_K (cl_s1 hC)) (by decide) (Nat.le_of_ble_eq_true rfl) (Nat.le_refl _) (Nat.le_refl _) (fun S_18 im_18 h_18 => ?_)
    obtain ⟨rfl, hL, hc⟩ := h_18
    refine z_aload_n (pc := 21) C dX6_order_21 rfl ?_
    refine gX6_10 (pc := 22) C dX6_order_22 (cl_K hC) (cl_r0 hC) ?_
    refine gX6_141 (pc := 25) C dX6_order_25 (sl_K (cl_s1 hC)) (sl_r2 (cl_s1 hC)) ?_
    refine z_iload_n (pc := 28) C dX6_order_28 rfl ?_
    refine z_iald (pc := 29) C dX6_order_29 (sl_a2 (cl_s1 hC)) (sl_n2 (cl_s1 hC)) (by omega) (by decide) ?_
    refine z_eqi (y := nI (ordA f n l0)) (hL l0 hl0) ?_
    exact z_iret (pc := 30) C ρ dX6_order_30 (⟨_, rfl, by simp only [r_order, if_pos hb_5, hcl], SX.rf, ⟨n, ST_fr hst (fun a _ _ h => hc a h) (fun a _ _ => hc a (by omega))⟩, fun a h1 _ _ => hc a (by omega)⟩)
  · 
    refine z_if_neF (pc := 8) C 14 dX6_order_8 (by decide) (by decide) ?_
    refine z_ldc (pc := 11) C dX6_order_11 wk_X6_60 ?_
    exact z_iret (pc := 13) C ρ dX6_order_13 (⟨_, rfl, by simp only [r_order, if_neg hb_5], SX.rf, ⟨n, hst⟩, frC.rf⟩)
