/-! a night: what the class needs of it -/
theorem upd_comm {f : Nat → Int32} {j k : Nat} {a b : Int32} (h : j ≠ k) : upd (upd f j a) k b = upd (upd f k b) j a := by
  funext i
  by_cases h1 : i = j
  · subst h1; rw [upd_n _ _ h, upd_s, upd_s]
  · rw [upd_n _ _ h1]
    by_cases h2 : i = k
    · subst h2; rw [upd_s, upd_s]
    · rw [upd_n _ _ h2, upd_n _ _ h2, upd_n _ _ h1]
theorem upd_upd {f : Nat → Int32} {j : Nat} {a b : Int32} : upd (upd f j a) j b = upd f j b := by
  funext i
  by_cases h1 : i = j
  · subst h1; rw [upd_s, upd_s]
  · rw [upd_n _ _ h1, upd_n _ _ h1, upd_n _ _ h1]
theorem upd_id {f : Nat → Int32} {j : Nat} {a : Int32} (h : f j = a) : upd f j a = f := by
  funext i
  by_cases h1 : i = j
  · subst h1; rw [upd_s, h]
  · rw [upd_n _ _ h1]
theorem s_cnt_cg {f g : Nat → Int32} {key : Int32} : ∀ n7, (∀ t, t < n7 → g (78 + 2 * t) = f (78 + 2 * t)) → s_cnt g key n7 = s_cnt f key n7 := by
  intro n7
  induction n7 with
  | zero => intro _; rfl
  | succ t ih => intro h; rw [s_cnt, s_cnt, h t (by omega), ih (fun t ht => h t (by omega))]
theorem s_plain_cg {f g : Nat → Int32} {n7 : Nat} {o w s : Int32} (h : ∀ k, 78 ≤ k → g k = f k) : s_plain g n7 o w s = s_plain f n7 o w s := by
  have e1 : s_cnt g (nI 0) n7 = s_cnt f (nI 0) n7 := s_cnt_cg n7 (fun t _ => h _ (by omega))
  have e2 : ∀ t, s_row g t = s_row f t := fun t => funext fun k => h _ (by omega)
  have e3 : ∀ t, s_len g t = s_len f t := fun t => by unfold s_len; rw [h _ (by omega)]
  unfold s_plain s_val
  rw [e1, e2, e3]
theorem s_burns_cg {f g : Nat → Int32} {n7 l0 : Nat} (h : ∀ k, 78 ≤ k → g k = f k) (h4 : g 4 = f 4) (hl : ∀ k, k < 7 → g (8 + 7 * l0 + k) = f (8 + 7 * l0 + k)) : s_burns g n7 l0 = s_burns f n7 l0 := by
  unfold s_burns
  rw [s_plain_cg h, h4, hl 0 (by decide), hl 1 (by decide), hl 2 (by decide)]
theorem lights6 {F : Nat → Int32} {a : Int32} {n7 l0 : Nat} {mi : Int32} : s_lights (upd F 6 a) n7 l0 mi = upd (s_lights F n7 l0 mi) 6 a := by
  have e0 : ∀ k, k ≠ 6 → upd F 6 a k = F k := fun k h => upd_n _ _ h
  have eb : s_burns (upd F 6 a) n7 l0 = s_burns F n7 l0 := s_burns_cg (fun k h => e0 k (by omega)) (e0 4 (by decide)) (fun k _ => e0 _ (by omega))
  have ee : s_end (upd F 6 a) n7 l0 mi = s_end F n7 l0 mi := by unfold s_end; rw [eb, e0 5 (by decide)]
  unfold s_lights
  rw [ee, e0 (8 + 7 * l0 + 6) (by omega), e0 (8 + 7 * l0 + 2) (by omega), e0 (8 + 7 * l0 + 0) (by omega)]
  rw [upd_comm (j := 6) (k := 8 + 7 * l0 + 6) (by omega), upd_comm (j := 6) (k := 8 + 7 * l0 + 5) (by omega), upd_comm (j := 6) (k := 8 + 7 * l0 + 4) (by omega), upd_comm (j := 6) (k := 8 + 7 * l0 + 2) (by omega)]
theorem lights_6 {F : Nat → Int32} {n7 l0 : Nat} {mi : Int32} : s_lights F n7 l0 mi 6 = F 6 := by
  unfold s_lights
  rw [upd_n _ _ (by omega), upd_n _ _ (by omega), upd_n _ _ (by omega), upd_n _ _ (by omega)]
theorem run6 {g : Nat → Int32} {p : Nat → Nat} {n7 : Nat} {sp : Int32} : ∀ i, (s_run g p n7 sp i).1 6 = g 6 + (s_run g p n7 sp i).2.1 := by
  intro i
  induction i with
  | zero => rw [s_run, nI_0, Int32.add_zero]
  | succ i ih =>
    rw [s_run]
    by_cases h : nI (p i) = sp
    · rw [if_pos h]; exact ih
    · rw [if_neg h]
      show s_lights _ n7 (p i) _ 6 = _
      rw [lights_6, upd_s, ih, Int32.add_assoc]
theorem RG_hd {f g : Nat → Int32} {n : Nat} (h : RG f n) (h4 : g 4 = f 4) (h5 : g 5 = f 5) (hl : ∀ j, 8 ≤ j → j < 8 + 7 * n → g j = f j) : RG g n := by
  refine ⟨by rw [h4]; exact h.1, by rw [h5]; exact h.2.1, fun l hl' => ?_⟩
  rw [hl _ (by omega) (by omega), hl _ (by omega) (by omega), hl _ (by omega) (by omega), hl _ (by omega) (by omega), hl _ (by omega) (by omega)]
  exact h.2.2 l hl'
theorem apart_rng {a b : Int32} (ha : inR 0 99 a) (hb : inR 0 99 b) : inR 0 99 (s_apart a b) := by
  obtain ⟨i, hi, rfl⟩ := inR_nI (k := 99) ha
  obtain ⟨j, hj, rfl⟩ := inR_nI (k := 99) hb
  unfold s_apart
  by_cases h : j ≤ i
  · rw [if_pos (nI_le h (by omega)), pk_sub h]; exact nI_R (by omega) (by omega)
  · rw [if_neg (nI_ge (by omega) (by omega)), pk_sub (by omega)]; exact nI_R (by omega) (by omega)
theorem run_rng {g : Nat → Int32} {p : Nat → Nat} {n n7 : Nat} {sp : Int32} (hg : RG g n) (hn : n ≤ 10) (hp : ∀ i, i < n → p i < n) : ∀ i, i ≤ n → RG (s_run g p n7 sp i).1 n ∧ inR 0 (100 * i) (s_run g p n7 sp i).2.1 ∧ inR 0 99 (s_run g p n7 sp i).2.2 := by
  intro i
  induction i with
  | zero => intro _; exact ⟨hg, nI_R (by omega) (by omega), nI_R (by omega) (by omega)⟩
  | succ i ih =>
    intro hi
    obtain ⟨h1, h2, h3⟩ := ih (by omega)
    rw [s_run]
    by_cases h : nI (p i) = sp
    · rw [if_pos h]; exact ⟨h1, inR_wk h2 (by omega) (by omega), h3⟩
    · rw [if_neg h]
      have hpl := (h1.2.2 (p i) (hp i (by omega))).2.1
      have ha := apart_rng hpl h3
      have e1 := add_toI ha (nI_inR (k := 1) (by decide)) (by decide) (by decide)
      rw [nI_toInt (by decide)] at e1
      have hw : inR 0 100 (s_apart ((s_run g p n7 sp i).1 (8 + 7 * p i + 1)) (s_run g p n7 sp i).2.2 + nI 1) := ⟨by have := ha.1; omega, by have := ha.2; omega⟩
      have e2 := add_toI h2 hw (by omega) (by omega)
      have hm : inR 0 (100 * (i + 1)) ((s_run g p n7 sp i).2.1 + (s_apart ((s_run g p n7 sp i).1 (8 + 7 * p i + 1)) (s_run g p n7 sp i).2.2 + nI 1)) := by
        obtain ⟨a, b⟩ := h2
        obtain ⟨c, d⟩ := hw
        exact ⟨by rw [e2]; omega, by rw [e2]; omega⟩
      exact ⟨RG_lights (RG_hd h1 (upd_n _ _ (by decide)) (upd_n _ _ (by decide)) (fun j hj _ => upd_n _ _ (by omega))) (hp i (by omega)) (inR_wk hm (by omega) (by omega)), hm, hpl⟩
theorem pour_eq {a b : Int32} (ha : inR 0 999 a) (hb : inR 0 99 b) : s_mn (a + b) (nI 999) = s_within (a + b) (nI 0) (nI 999) := by
  have e := add_toI ha hb (by decide) (by decide)
  rw [← held_within (a + b) (by decide), ← Int32.toInt_inj, mx_toI, mn_toI, mn_toI, e, nI_toInt (by decide), nI_toInt (by decide)]
  obtain ⟨h1, h2⟩ := ha
  obtain ⟨h3, h4⟩ := hb
  repeat (first | omega | split)
theorem RG_pour {R : Nat → Int32} {n : Nat} {sp : Int32} (h : RG R n) : ∀ i, i ≤ n → RG (s_pour R sp i) n := by
  intro i
  induction i with
  | zero => intro _; exact h
  | succ i ih =>
    intro hi
    obtain ⟨h4, h5, hl⟩ := ih (by omega)
    rw [s_pour]
    refine ⟨by rw [upd_n _ _ (by omega)]; exact h4, by rw [upd_n _ _ (by omega)]; exact h5, fun l hl' => ?_⟩
    obtain ⟨a0, a1, a2, a3, a4⟩ := hl l hl'
    refine ⟨by rw [upd_n _ _ (by omega)]; exact a0, by rw [upd_n _ _ (by omega)]; exact a1, ?_, by rw [upd_n _ _ (by omega)]; exact a3, by rw [upd_n _ _ (by omega)]; exact a4⟩
    by_cases e : l = i
    · subst e; rw [upd_s]; exact within_rng (by decide) (by decide)
    · rw [upd_n _ _ (by omega)]; exact a2
theorem pour_id {R : Nat → Int32} {n i : Nat} {sp : Int32} (h : RG R n) (hi : i < n) (he : nI i = sp) : s_pour R sp (i + 1) = s_pour R sp i := by
  rw [s_pour]
  apply upd_id
  rw [if_pos he, nI_0, Int32.add_zero]
  exact (within_id (a := 0) (b := 999) (by decide) ((RG_pour h i (by omega)).2.2 i hi).2.2.1).symm
theorem sh_val (z : Int32) : ∃ j, j < 2 ^ 24 ∧ s_sh z = nI j := by
  refine ⟨z.toBitVec.toNat / 2 ^ 8, by have := z.toBitVec.isLt; omega, ?_⟩
  apply Int32.toBitVec_inj.mp
  apply BitVec.eq_of_toNat_eq
  rw [s_sh, pk_ushr z (nI 8) 8 (by decide +kernel), pk_tn (by have := z.toBitVec.isLt; omega)]
theorem rem_rng (z : Int32) {k : Nat} (h0 : 0 < k) (hk : k < 2 ^ 31) : inR 0 (k - 1) (s_sh z - s_sh z / nI k * nI k) := by
  obtain ⟨j, hj, e⟩ := sh_val z
  rw [e, pk_rem (by omega) h0 hk]
  have := Nat.mod_lt j h0
  exact nI_R (by omega) (by omega)
theorem RG_dusk {f : Nat → Int32} {n : Nat} (h : RG f n) : RG (s_dusk f) n := by
  refine ⟨?_, ?_, fun l hl => ?_⟩
  · rw [s_dusk, upd_s]; exact inR_wk (rem_rng _ (by decide) (by decide)) (by decide) (by decide)
  · rw [s_dusk, upd_n _ _ (by decide), upd_n _ _ (by decide)]; exact h.2.1
  · have e : ∀ k, 8 ≤ k → s_dusk f k = f k := fun k hk => by rw [s_dusk, upd_n _ _ (by omega), upd_n _ _ (by omega)]
    rw [e _ (by omega), e _ (by omega), e _ (by omega), e _ (by omega), e _ (by omega)]
    exact h.2.2 l hl
theorem RG_night {f : Nat → Int32} {n n7 : Nat} {sp : Int32} (hn : n ≤ 10) (h : RG f n) : RG (s_night f n n7 sp) n :=
  RG_hd (RG_pour (run_rng (RG_dusk h) hn (fun i hi => ordA_lt hi) n (Nat.le_refl _)).1 n (Nat.le_refl _)) (upd_n _ _ (by decide)) (upd_n _ _ (by decide)) (fun j hj _ => upd_n _ _ (by omega))
theorem RG_nights {f : Nat → Int32} {n n7 : Nat} {sp : Int32} (hn : n ≤ 10) (h : RG f n) : ∀ k, RG (s_nights f n n7 sp k) n := by
  intro k
  induction k with
  | zero => exact h
  | succ k ih => exact RG_night hn ih
theorem turn_dusk (f : Nat → Int32) : s_turn (s_dusk f) = s_turn f := by
  have e : ∀ k, k ≠ 0 → k ≠ 4 → s_dusk f k = f k := fun k h0 h4 => by rw [s_dusk, upd_n _ _ h4, upd_n _ _ h0]
  funext l
  unfold s_turn
  rw [e 3 (by decide) (by decide), e _ (by omega) (by omega), e _ (by omega) (by omega)]
theorem insL_cg {f g : Nat → Int32} (h : s_turn g = s_turn f) (x : Nat) : ∀ l, insL g x l = insL f x l := by
  intro l
  induction l with
  | nil => rfl
  | cons a r ih => rw [insL, insL, h, ih]
theorem ordL_cg {f g : Nat → Int32} (h : s_turn g = s_turn f) : ∀ n, ordL g n = ordL f n := by
  intro n
  induction n with
  | zero => rfl
  | succ n ih => rw [ordL, ordL, ih, insL_cg h]
theorem ordA_dusk (f : Nat → Int32) (n j : Nat) : ordA (s_dusk f) n j = ordA f n j := by
  unfold ordA
  rw [ordL_cg (turn_dusk f)]
/-- of the heap only the street at q and stacks of texts have changed -/
def frQ (q X : Nat) (im im' : Mem) : Prop := ∀ a, (a < q ∨ q + 15 ≤ a) → (a < X ∨ ¬ (a - X) % 3 = 2) → im' a = im a
theorem frQ.rf {q X : Nat} {im : Mem} : frQ q X im im := fun _ _ _ => rfl
theorem frQ.tr {q X : Nat} {a b c : Mem} (h1 : frQ q X a b) (h2 : frQ q X b c) : frQ q X a c := fun d g1 g2 => (h2 d g1 g2).trans (h1 d g1 g2)
theorem frQ.up {q X c k : Nat} {im im' : Mem} {x : Int32} (h : frQ q X im im') (h1 : q ≤ c) (h2 : c < q + 15) : frQ q X im (up2 im' c k x) := fun d g1 g2 => by rw [up2_n _ _ _ (by omega)]; exact h d g1 g2
theorem TXr_mv {S : Sx} {im im' : Mem} {f g : Nat → Int32} {t X i m key u : Nat} (h : TXr S im f t (X + 3 * i) m key u) (hs : ∀ k, 78 ≤ k → g k = f k) (hf : ∀ a, X ≤ a → ¬ (a - X) % 3 = 2 → im' a = im a) : TXr S im' g t (X + 3 * i) m key u := by
  obtain ⟨h1, h2, h3, h4, h5, h6⟩ := h
  have e2 : s_row g t = s_row f t := funext fun k => hs _ (by omega)
  refine ⟨h1, ⟨h2.1, by rw [hs _ (by omega)]; exact h2.2.1, by rw [e2]; exact h2.2.2⟩, by rw [e2]; exact h3, fun k hk => ?_, ?_, ?_⟩
  · rw [hf _ (by omega) (by omega), e2]; exact h4 k hk
  · rw [hf _ (by omega) (by omega)]; exact h5
  · rw [hf _ (by omega) (by omega), hs _ (by omega)]; exact h6
theorem TR_mv {S : Sx} {im im' : Mem} {q X : Nat} {f g : Nat → Int32} {n7 : Nat} (h : TR S im q X f n7) (hs : sam f g) (hq : im' q 10 = nI n7) (hc : im' (q + 4) = im (q + 4)) (hf : ∀ a, X ≤ a → ¬ (a - X) % 3 = 2 → im' a = im a) : TR S im' q X g n7 := by
  obtain ⟨⟨a1, a2, a3⟩, b, c⟩ := h
  refine ⟨⟨a1, hq, by rw [hs.2.1]; exact a3⟩, fun t ht => ?_, fun k hk => ?_⟩
  · obtain ⟨i, m, key, u, g1, g2⟩ := b t ht
    exact ⟨i, m, key, u, g1, TXr_mv g2 hs.2.2 hf⟩
  · rw [hc, c k hk, s_cnt_cg n7 (fun t _ => hs.2.2 _ (by omega))]
theorem SR_h0 {im : Mem} {q n : Nat} {f : Nat → Int32} {x : Int32} (hr : SR im q f n) : SR (up2 im q 8 x) q (upd f 0 x) n := by
  obtain ⟨⟨a1, a2, a3⟩, ⟨b1, b2, b3, b4, b5, b6, b7⟩, c⟩ := hr
  refine ⟨⟨a1, by rw [upd_n _ _ (by decide)]; exact a2, by rw [up2_at, if_neg (by decide)]; exact a3⟩, ⟨?_, ?_, ?_, ?_, ?_, ?_, ?_⟩, fun l hl j hj => by rw [up2_n _ _ _ (by omega), upd_n _ _ (by omega)]; exact c l hl j hj⟩
  · rw [up2_at, if_pos rfl, upd_s]
  · rw [up2_at, if_neg (by decide), upd_n _ _ (by decide)]; exact b2
  · rw [up2_at, if_neg (by decide), upd_n _ _ (by decide)]; exact b3
  · rw [up2_at, if_neg (by decide), upd_n _ _ (by decide)]; exact b4
  · rw [up2_at, if_neg (by decide), upd_n _ _ (by decide)]; exact b5
  · rw [up2_at, if_neg (by decide), upd_n _ _ (by decide)]; exact b6
  · rw [up2_at, if_neg (by decide), upd_n _ _ (by decide)]; exact b7
theorem SR_h2 {im : Mem} {q n : Nat} {f : Nat → Int32} {x : Int32} (hr : SR im q f n) : SR (up2 im q 7 x) q (upd f 2 x) n := by
  obtain ⟨⟨a1, a2, a3⟩, ⟨b1, b2, b3, b4, b5, b6, b7⟩, c⟩ := hr
  refine ⟨⟨a1, by rw [upd_n _ _ (by decide)]; exact a2, by rw [up2_at, if_neg (by decide)]; exact a3⟩, ⟨?_, ?_, ?_, ?_, ?_, ?_, ?_⟩, fun l hl j hj => by rw [up2_n _ _ _ (by omega), upd_n _ _ (by omega)]; exact c l hl j hj⟩
  · rw [up2_at, if_neg (by decide), upd_n _ _ (by decide)]; exact b1
  · rw [up2_at, if_pos rfl, upd_s]
  · rw [up2_at, if_neg (by decide), upd_n _ _ (by decide)]; exact b3
  · rw [up2_at, if_neg (by decide), upd_n _ _ (by decide)]; exact b4
  · rw [up2_at, if_neg (by decide), upd_n _ _ (by decide)]; exact b5
  · rw [up2_at, if_neg (by decide), upd_n _ _ (by decide)]; exact b6
  · rw [up2_at, if_neg (by decide), upd_n _ _ (by decide)]; exact b7
theorem SR_h3 {im : Mem} {q n : Nat} {f : Nat → Int32} {x : Int32} (hr : SR im q f n) : SR (up2 im q 3 x) q (upd f 3 x) n := by
  obtain ⟨⟨a1, a2, a3⟩, ⟨b1, b2, b3, b4, b5, b6, b7⟩, c⟩ := hr
  refine ⟨⟨a1, by rw [upd_n _ _ (by decide)]; exact a2, by rw [up2_at, if_neg (by decide)]; exact a3⟩, ⟨?_, ?_, ?_, ?_, ?_, ?_, ?_⟩, fun l hl j hj => by rw [up2_n _ _ _ (by omega), upd_n _ _ (by omega)]; exact c l hl j hj⟩
  · rw [up2_at, if_neg (by decide), upd_n _ _ (by decide)]; exact b1
  · rw [up2_at, if_neg (by decide), upd_n _ _ (by decide)]; exact b2
  · rw [up2_at, if_pos rfl, upd_s]
  · rw [up2_at, if_neg (by decide), upd_n _ _ (by decide)]; exact b4
  · rw [up2_at, if_neg (by decide), upd_n _ _ (by decide)]; exact b5
  · rw [up2_at, if_neg (by decide), upd_n _ _ (by decide)]; exact b6
  · rw [up2_at, if_neg (by decide), upd_n _ _ (by decide)]; exact b7
theorem SR_h4 {im : Mem} {q n : Nat} {f : Nat → Int32} {x : Int32} (hr : SR im q f n) : SR (up2 im q 4 x) q (upd f 4 x) n := by
  obtain ⟨⟨a1, a2, a3⟩, ⟨b1, b2, b3, b4, b5, b6, b7⟩, c⟩ := hr
  refine ⟨⟨a1, by rw [upd_n _ _ (by decide)]; exact a2, by rw [up2_at, if_neg (by decide)]; exact a3⟩, ⟨?_, ?_, ?_, ?_, ?_, ?_, ?_⟩, fun l hl j hj => by rw [up2_n _ _ _ (by omega), upd_n _ _ (by omega)]; exact c l hl j hj⟩
  · rw [up2_at, if_neg (by decide), upd_n _ _ (by decide)]; exact b1
  · rw [up2_at, if_neg (by decide), upd_n _ _ (by decide)]; exact b2
  · rw [up2_at, if_neg (by decide), upd_n _ _ (by decide)]; exact b3
  · rw [up2_at, if_pos rfl, upd_s]
  · rw [up2_at, if_neg (by decide), upd_n _ _ (by decide)]; exact b5
  · rw [up2_at, if_neg (by decide), upd_n _ _ (by decide)]; exact b6
  · rw [up2_at, if_neg (by decide), upd_n _ _ (by decide)]; exact b7
theorem SR_h5 {im : Mem} {q n : Nat} {f : Nat → Int32} {x : Int32} (hr : SR im q f n) : SR (up2 im q 5 x) q (upd f 5 x) n := by
  obtain ⟨⟨a1, a2, a3⟩, ⟨b1, b2, b3, b4, b5, b6, b7⟩, c⟩ := hr
  refine ⟨⟨a1, by rw [upd_n _ _ (by decide)]; exact a2, by rw [up2_at, if_neg (by decide)]; exact a3⟩, ⟨?_, ?_, ?_, ?_, ?_, ?_, ?_⟩, fun l hl j hj => by rw [up2_n _ _ _ (by omega), upd_n _ _ (by omega)]; exact c l hl j hj⟩
  · rw [up2_at, if_neg (by decide), upd_n _ _ (by decide)]; exact b1
  · rw [up2_at, if_neg (by decide), upd_n _ _ (by decide)]; exact b2
  · rw [up2_at, if_neg (by decide), upd_n _ _ (by decide)]; exact b3
  · rw [up2_at, if_neg (by decide), upd_n _ _ (by decide)]; exact b4
  · rw [up2_at, if_pos rfl, upd_s]
  · rw [up2_at, if_neg (by decide), upd_n _ _ (by decide)]; exact b6
  · rw [up2_at, if_neg (by decide), upd_n _ _ (by decide)]; exact b7
theorem SR_h6 {im : Mem} {q n : Nat} {f : Nat → Int32} {x : Int32} (hr : SR im q f n) : SR (up2 im q 6 x) q (upd f 6 x) n := by
  obtain ⟨⟨a1, a2, a3⟩, ⟨b1, b2, b3, b4, b5, b6, b7⟩, c⟩ := hr
  refine ⟨⟨a1, by rw [upd_n _ _ (by decide)]; exact a2, by rw [up2_at, if_neg (by decide)]; exact a3⟩, ⟨?_, ?_, ?_, ?_, ?_, ?_, ?_⟩, fun l hl j hj => by rw [up2_n _ _ _ (by omega), upd_n _ _ (by omega)]; exact c l hl j hj⟩
  · rw [up2_at, if_neg (by decide), upd_n _ _ (by decide)]; exact b1
  · rw [up2_at, if_neg (by decide), upd_n _ _ (by decide)]; exact b2
  · rw [up2_at, if_neg (by decide), upd_n _ _ (by decide)]; exact b3
  · rw [up2_at, if_neg (by decide), upd_n _ _ (by decide)]; exact b4
  · rw [up2_at, if_neg (by decide), upd_n _ _ (by decide)]; exact b5
  · rw [up2_at, if_pos rfl, upd_s]
  · rw [up2_at, if_neg (by decide), upd_n _ _ (by decide)]; exact b7
theorem SR_lamp {im : Mem} {q n l0 k0 : Nat} {f : Nat → Int32} {x : Int32} (hr : SR im q f n) (hl : l0 < n) (hk : k0 < 7) : SR (up2 im (q + 5 + l0) k0 x) q (upd f (8 + 7 * l0 + k0) x) n := by
  obtain ⟨⟨a1, a2, a3⟩, ⟨b1, b2, b3, b4, b5, b6, b7⟩, c⟩ := hr
  have e : ∀ j, j < 8 → upd f (8 + 7 * l0 + k0) x j = f j := fun j hj => upd_n _ _ (by omega)
  rw [SR, up2_n _ _ _ (by omega), e 0 (by decide), e 1 (by decide), e 2 (by decide), e 3 (by decide), e 4 (by decide), e 5 (by decide), e 6 (by decide), e 7 (by decide)]
  refine ⟨⟨a1, a2, a3⟩, ⟨b1, b2, b3, b4, b5, b6, b7⟩, fun l hl' j hj => ?_⟩
  by_cases h1 : l = l0
  · subst h1
    rw [up2_at]
    by_cases h2 : j = k0
    · subst h2; rw [if_pos rfl, upd_s]
    · rw [if_neg h2, upd_n _ _ (by omega)]; exact c l hl' j hj
  · rw [up2_n _ _ _ (by omega), upd_n _ _ (by omega)]; exact c l hl' j hj
