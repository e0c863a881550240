/-! the class: text -/
theorem cG_cg {g h : Nat → Int32} : ∀ m, (∀ k, k < m → h k = g k) → cG h m = cG g m := by
  intro m
  induction m with
  | zero => intro _; rfl
  | succ m ih => intro e; rw [cG, cG, ih (fun k hk => e k (by omega)), e m (by omega)]
theorem cO_le : ∀ xs : List Int32, cO xs ≤ xs.length := by
  intro xs
  induction xs with
  | nil => exact Nat.le_refl _
  | cons x xs ih => rw [cO, List.length_cons]; split <;> omega
theorem TXr_cg {S S' : Sx} {im im' : Mem} {f g : Nat → Int32} {t y m key u : Nat} (h : TXr S im f t y m key u) (e1 : g (78 + 2 * t) = f (78 + 2 * t)) (e2 : g (78 + 2 * t + 1) = f (78 + 2 * t + 1)) (e3 : ∀ k, k < 96 → g (106 + 96 * t + k) = f (106 + 96 * t + k)) (eS : ∀ a, y ≤ a → a < y + 3 → sE S S' a) (ei : ∀ a, y ≤ a → a < y + 2 → im' a = im a) : TXr S' im' g t y m key u := by
  obtain ⟨⟨a1, a2, a3, a4, a5, a6, a7⟩, h2, h3, h4, h5, h6⟩ := h
  have hm := h2.2.2.1
  have er : ∀ k, k < m → s_row g t k = s_row f t k := fun k hk => e3 k (by omega)
  have s0 := eS y (by omega) (by omega)
  have s1 := eS (y + 1) (by omega) (by omega)
  have s2 := eS (y + 2) (by omega) (by omega)
  refine ⟨⟨s0.1.trans a1, s0.2.1.trans a2, s1.1.trans a3, (congrFun s1.2.2 2).trans a4, (congrFun s1.2.2 3).trans a5, s2.1.trans a6, s2.2.1.trans a7⟩, TxOk_cg h2 e1 e3, by rw [cG_cg m er]; exact h3, fun k hk => by rw [ei y (by omega) (by omega), er k hk]; exact h4 k hk, by rw [ei (y + 1) (by omega) (by omega)]; exact h5, by rw [ei (y + 1) (by omega) (by omega), e2]; exact h6⟩
theorem ft_lo {f a : Nat → Int32} {T n7 j : Nat} (hj : j < 78) (h7 : j ≠ 7) : f_text f a T n7 j = f j := by
  unfold f_text
  split
  · split
    · rfl
    · rw [upd_n _ _ h7, tx_pl, if_neg (by omega), upd_n _ _ (by omega), upd_n _ _ (by omega)]
  · rfl
theorem ST_text {S S' : Sx} {im im' : Mem} {B X n n7 y i0 u : Nat} {f a : Nat → Int32} {T : Nat} (hst : ST S im (B + 1) X f n n7) (hX : B + 107 ≤ X) (hT : T ≤ 96) (hok : tx_ok a T) (h14 : n7 < 14) (hy : y = X + 3 * i0) (hfr : ∀ q, S.2.1 q < 15 → q < y) (hu : u = max (tx_rd a T).2.2.2.2 1) (hX1 : TXL S' y (tx_rd a T).2.2.2.1.length u) (hS : ∀ a, a < y → a ≠ B + 1 + 3 → sE S S' a) (href : ∀ t, t < n7 → S'.2.2.2 (B + 1 + 3) t = S.2.2.2 (B + 1 + 3) t) (hrefn : S'.2.2.2 (B + 1 + 3) n7 = some (y + 1)) (himy : ∀ k, k < (tx_rd a T).2.2.2.1.length → im' y k = cmC ((tx_rd a T).2.2.2.1.getD k 0)) (hk0 : im' (y + 1) 0 = nI (tx_key a T)) (hk1 : im' (y + 1) 1 = nI (tx_rd a T).2.2.2.2) (him : ∀ a, a < y → a ≠ B + 1 → a ≠ B + 1 + 4 → a ≠ B + 46 → a ≠ B + 48 → im' a = im a) (hq : ∀ j, j ≠ 10 → im' (B + 1) j = im (B + 1) j) (h10 : im' (B + 1) 10 = nI (n7 + 1)) (hcnt : im' (B + 1 + 4) = upd (im (B + 1 + 4)) (tx_key a T) (nI n7)) : ST S' im' (B + 1) X (f_text f a T n7) n (n7 + 1) := by
  have hn10 := hst.1.1.1
  obtain ⟨v1, v2, v3⟩ := tx_val hok
  have hlo : ∀ j, j < 78 → j ≠ 7 → f_text f a T n7 j = f j := fun j h1 h2 => ft_lo h1 h2
  have hex : f_text f a T n7 = upd (tx_pl f (tx_rd a T).2.2.2.1 (tx_key a T) (tx_rd a T).2.2.2.2 n7 (tx_rd a T).2.2.2.1.length) 7 (nI (n7 + 1)) := by
    unfold f_text
    rw [if_pos hok, if_neg (by omega)]
  have h7' : f_text f a T n7 7 = nI (n7 + 1) := by rw [hex, upd_s]
  have hhi : ∀ j, 78 ≤ j → f_text f a T n7 j = tx_pl f (tx_rd a T).2.2.2.1 (tx_key a T) (tx_rd a T).2.2.2.2 n7 (tx_rd a T).2.2.2.1.length j := fun j hj => by rw [hex, upd_n _ _ (by omega)]
  have hlam : ∀ l, l < n → B + 1 + 5 + l < y := fun l hl => by omega
  have hold : ∀ j, 78 ≤ j → j < 106 → j ≠ 78 + 2 * n7 → j ≠ 78 + 2 * n7 + 1 → f_text f a T n7 j = f j := fun j h1 h2 h3 h4 => by
    rw [hhi j h1, tx_pl, if_neg (by omega), upd_n _ _ h4, upd_n _ _ h3]
  have hrow : ∀ t, t < n7 → ∀ k, k < 96 → f_text f a T n7 (106 + 96 * t + k) = f (106 + 96 * t + k) := fun t ht k hk => by
    rw [hhi _ (by omega), tx_pl, if_neg (by omega), upd_n _ _ (by omega), upd_n _ _ (by omega)]
  have hnk : f_text f a T n7 (78 + 2 * n7) = nI (1000 * tx_key a T + (tx_rd a T).2.2.2.1.length) := by
    rw [hhi _ (by omega), tx_pl, if_neg (by omega), upd_n _ _ (by omega), upd_s]
  have hna : f_text f a T n7 (78 + 2 * n7 + 1) = nI (tx_rd a T).2.2.2.2 := by
    rw [hhi _ (by omega), tx_pl, if_neg (by omega), upd_s]
  have hnr : ∀ k, k < (tx_rd a T).2.2.2.1.length → f_text f a T n7 (106 + 96 * n7 + k) = (tx_rd a T).2.2.2.1.getD k 0 := fun k hk => by
    rw [hhi _ (by omega), tx_pl, if_pos (by omega), show 106 + 96 * n7 + k - (106 + 96 * n7) = k by omega]
  have hmok : MOk f n n7 := ⟨⟨hn10, hst.1.1.2.1⟩, ⟨hst.2.1.1.1, hst.2.1.1.2.2⟩, fun t ht => by obtain ⟨i, m, key, u, -, h⟩ := hst.2.1.2.1 t ht; exact ⟨key, m, h.2.1⟩⟩
  have hTx : TxOk (f_text f a T n7) n7 (tx_key a T) (tx_rd a T).2.2.2.1.length := by
    obtain ⟨key', m', h⟩ := (mok_text hmok hT (by omega) hok).2.2 n7 (by omega)
    have e := h.2.1
    rw [hnk] at e
    have hm' := h.2.2.1
    have hk' := h.1
    have hk3 := hok.1
    have e2 := (nI_eq (by omega) (by omega)).mp e
    have e3 : tx_key a T = key' := by omega
    have e4 : (tx_rd a T).2.2.2.1.length = m' := by omega
    rw [e3, e4]
    exact h
  refine ⟨⟨⟨hn10, by rw [hlo 1 (by decide) (by decide)]; exact hst.1.1.2.1, by rw [hq 1 (by decide)]; exact hst.1.1.2.2⟩, ?_, fun l hl k hk => by rw [him _ (hlam l hl) (by omega) (by omega) (by omega) (by omega), hlo _ (by omega) (by omega)]; exact hst.1.2.2 l hl k hk⟩, ⟨⟨by omega, h10, h7'⟩, fun t ht => ?_, fun k hk => ?_⟩, RG_hd hst.2.2 (hlo 4 (by decide) (by decide)) (hlo 5 (by decide) (by decide)) (fun j h1 h2 => hlo j (by omega) (by omega))⟩
  · obtain ⟨b1, b2, b3, b4, b5, b6, b7⟩ := hst.1.2.1
    rw [hq 8 (by decide), hq 7 (by decide), hq 3 (by decide), hq 4 (by decide), hq 5 (by decide), hq 6 (by decide), h10, h7', hlo 0 (by decide) (by decide), hlo 2 (by decide) (by decide), hlo 3 (by decide) (by decide), hlo 4 (by decide) (by decide), hlo 5 (by decide) (by decide), hlo 6 (by decide) (by decide)]
    exact ⟨b1, b2, b3, b4, b5, b6, rfl⟩
  · by_cases e : t = n7
    · subst e
      refine ⟨i0, (tx_rd a T).2.2.2.1.length, tx_key a T, u, by rw [hrefn, hy], ?_⟩
      rw [← hy]
      refine ⟨hX1, hTx, ?_, fun k hk => by rw [himy k hk]; exact congrArg cmC (hnr k hk).symm, hk0, by rw [hk1, hna]⟩
      have e1 := cO_cG (g := s_row (f_text f a T t) t) (tx_rd a T).2.2.2.1 0 (fun i hi => by rw [Nat.zero_add]; exact hnr i hi)
      rw [Nat.zero_add] at e1
      have e2 := cO_le (tx_rd a T).2.2.2.1
      rw [e1, hu, v3]
      exact ⟨by show 0 + _ ≤ _; omega, by omega, by omega⟩
    · obtain ⟨i, m, key, u', g1, g2⟩ := hst.2.1.2.1 t (by omega)
      have k2 := hfr (X + 3 * i + 2) (by rw [g2.1.2.2.2.2.2.1]; decide)
      exact ⟨i, m, key, u', by rw [href t (by omega)]; exact g1, TXr_cg g2 (hold _ (by omega) (by omega) (by omega) (by omega)) (hold _ (by omega) (by omega) (by omega) (by omega)) (hrow t (by omega)) (fun a h1 h2 => hS a (by omega) (by omega)) (fun a h1 h2 => him a (by omega) (by omega) (by omega) (by omega) (by omega))⟩
  · rw [hcnt, s_cnt, key_div hTx]
    have e1 : s_cnt (f_text f a T n7) (nI k) n7 = s_cnt f (nI k) n7 := s_cnt_cg n7 (fun t ht => hold _ (by omega) (by omega) (by omega) (by omega))
    have hk3 := hok.1
    by_cases e : k = tx_key a T
    · rw [e, upd_s, if_pos rfl, told_nI (by omega)]
    · rw [upd_n _ _ e, if_neg (fun h => e ((nI_eq (by omega) (by omega)).mp h).symm), e1]; exact hst.2.1.2.2 k hk
theorem SL_e {S S' : Sx} {q : Nat} (h : SL S q) (e : ∀ a, q ≤ a → a < q + 15 → sE S S' a) : SL S' q := by
  obtain ⟨⟨a0, a1, a2, a3, a4⟩, ⟨b1, b2⟩, ⟨c1, c2⟩, ⟨d1, d2⟩, ⟨e1, e2⟩, g⟩ := h
  have s0 := e q (by omega) (by omega)
  have s1 := e (q + 1) (by omega) (by omega)
  have s2 := e (q + 2) (by omega) (by omega)
  have s3 := e (q + 3) (by omega) (by omega)
  have s4 := e (q + 4) (by omega) (by omega)
  refine ⟨⟨s0.1.trans a0, (congrFun s0.2.2 0).trans a1, (congrFun s0.2.2 2).trans a2, (congrFun s0.2.2 9).trans a3, (congrFun s0.2.2 11).trans a4⟩, ⟨s1.1.trans b1, s1.2.1.trans b2⟩, ⟨s2.1.trans c1, s2.2.1.trans c2⟩, ⟨s3.1.trans d1, s3.2.1.trans d2⟩, ⟨s4.1.trans e1, s4.2.1.trans e2⟩, fun i hi => ⟨(congrFun s1.2.2 i).trans (g i hi).1, (e (q + 5 + i) (by omega) (by omega)).1.trans (g i hi).2⟩⟩
theorem TXL_e {S S' : Sx} {y m u : Nat} (h : TXL S y m u) (e : ∀ a, y ≤ a → a < y + 3 → sE S S' a) : TXL S' y m u := by
  obtain ⟨a1, a2, a3, a4, a5, a6, a7⟩ := h
  have s0 := e y (by omega) (by omega)
  have s1 := e (y + 1) (by omega) (by omega)
  have s2 := e (y + 2) (by omega) (by omega)
  exact ⟨s0.1.trans a1, s0.2.1.trans a2, s1.1.trans a3, (congrFun s1.2.2 2).trans a4, (congrFun s1.2.2 3).trans a5, s2.1.trans a6, s2.2.1.trans a7⟩
set_option maxRecDepth 100000 in
set_option maxHeartbeats 4000000 in
theorem c6_text (l : Launch) (E : Ex) (S : Sx) (im : Mem) (B : Nat) (hC : CL S B) (X : Nat) (hX : B + 107 ≤ X) (f : Nat → Int32) (n n7 : Nat) (hst : ST S im (B + 1) X f n n7) (T : Nat) (hT96 : T ≤ 96) (hl : im (B + 46) 1 = nI T) (i0 : Nat) (hy0 : S.1 = X + 3 * i0) : Mt l E yX6_text cX6_text 2 (some .int) 148 3 200 [.ref B] S im (pI (fun v S' im' => r_text (im (B + 47)) T n7 = v ∧ (∃ n7', ST S' im' (B + 1) X (f_text f (im (B + 47)) T n7) n n7') ∧ im' (B + 46) 1 = nI 0 ∧ (S'.1 = S.1 ∨ S'.1 = S.1 + 3) ∧ (∀ a, a < S.1 → S'.2.1 a = S.2.1 a ∧ S'.2.2.1 a = S.2.2.1 a ∧ (a ≠ B + 1 + 3 → S'.2.2.2 a = S.2.2.2 a)) ∧ ∀ a, a < S.1 → a ≠ B + 1 → a ≠ B + 1 + 4 → a ≠ B + 46 → a ≠ B + 48 → im' a = im a)) := by
  refine Mt.of (by decide +kernel) rfl rfl (Nat.le_of_ble_eq_true rfl) ?_
  intro κ hκ C ρ
  subst hκ
  show V E κ 2 0 0 0 [some (.ref B), none] [] S im
  have h14 := hst.2.1.1.1
  refine z_fresh (fun hfresh => ?_)
  refine z_aload_n (pc := 0) C dX6_text_0 rfl ?_
  refine gX6_25 (pc := 1) C dX6_text_1 (cl_K hC) (cl_r4 hC) ?_
  refine kX6_216 (pc := 4) C dX6_text_4 (c5_readText κ.2.1 E S im (B + 46) ⟨cl_kr hC, cl_t0 hC, cl_t7 hC, ⟨cl_a47 hC, cl_n47 hC⟩, cl_a48 hC, cl_n48 hC⟩ T hT96 hl) (cl_kr hC) (by decide) (Nat.le_of_ble_eq_true rfl) (by omega) (by omega) (fun v_4 S_4 im_4 h_4 => ?_)
  obtain ⟨rfl, fr4, hres⟩ := h_4
  rcases hres with ⟨hok, rfl, h4⟩ | ⟨hok, rfl, h4⟩
  · 
    change tx_ok (im (B + 47)) T at hok
    change PC0 (im (B + 47)) im_4 (B + 46) T (tx_key (im (B + 47)) T) (tx_rd (im (B + 47)) T).2 at h4
    refine z_istore_n (pc := 7) C dX6_text_7 (by decide) rfl ?_
    refine z_aload_n (pc := 8) C dX6_text_8 rfl ?_
    refine gX6_25 (pc := 9) C dX6_text_9 (cl_K hC) (cl_r4 hC) ?_
    refine z_iconstN (pc := 12) C 0 dX6_text_12 ?_
    refine pX6_210 (pc := 13) C dX6_text_13 (cl_kr hC) ?_
    refine z_iload_n (pc := 16) C dX6_text_16 rfl ?_
    refine z_if_neT (pc := 17) C 31 dX6_text_17 (by decide) (by decide) ?_
    refine z_aload_n (pc := 31) C dX6_text_31 rfl ?_
    refine gX6_10 (pc := 32) C dX6_text_32 (cl_K hC) (cl_r0 hC) ?_
    refine gX6_222 (pc := 35) C dX6_text_35 (sl_K (cl_s1 hC)) ?_
    refine z_eqi (y := nI n7) (by rw [up2_n _ _ _ (by omega), fr4 _ (by omega) (by omega)]; exact hst.2.1.1.2.1) ?_
    refine z_bipushN (pc := 38) C 14 (by decide) dX6_text_38 ?_
    refine z_icmp_ltN (pc := 40) C 46 dX6_text_40 (by decide) (by omega) (by omega) (fun c_40 => ?_) (fun c_40 => ?_)
    · 
      refine z_aload_n (pc := 46) C dX6_text_46 rfl ?_
      refine gX6_10 (pc := 47) C dX6_text_47 (cl_K hC) (cl_r0 hC) ?_
      refine z_aload_n (pc := 50) C dX6_text_50 rfl ?_
      refine gX6_25 (pc := 51) C dX6_text_51 (cl_K hC) (cl_r4 hC) ?_
      refine kX6_225 (pc := 54) C dX6_text_54 (c5_readOne κ.2.1 E S (up2 im_4 (B + 46) 1 (nI 0)) (B + 46) ⟨cl_kr hC, cl_t0 hC, cl_t7 hC, ⟨cl_a47 hC, cl_n47 hC⟩, cl_a48 hC, cl_n48 hC⟩ S.1 rfl (by have := hfresh (B + 48) (by rw [cl_a48 hC]; decide); omega) (tx_key (im (B + 47)) T) (tx_rd (im (B + 47)) T).2.2.2.2 (tx_rd (im (B + 47)) T).2.2.2.1.length (max (tx_rd (im (B + 47)) T).2.2.2.2 1) (by have := (tx_val hok).1; omega) (by have h1 := (tx_val hok).1; have h2 := cO_le (tx_rd (im (B + 47)) T).2.2.2.1; rw [(tx_val hok).2.2]; omega) rfl (by rw [up2_at, if_neg (by decide)]; exact h4.2.2.2.1) (by rw [up2_at, if_neg (by decide)]; exact h4.2.2.2.2.1) (by rw [up2_at, if_neg (by decide)]; exact h4.2.2.2.2.2.1)) (cl_kr hC) (by decide) (Nat.le_of_ble_eq_true rfl) (by omega) (by omega) (fun v_54 S_54 im_54 h_54 => ?_)
      obtain ⟨rfl, m1, m2, m3, m4, m5, m6, m7⟩ := h_54
      have hB48 := hfresh (B + 48) (by rw [cl_a48 hC]; decide)
      have hs1 : SL S_54 (B + 1) := SL_e (cl_s1 hC) (fun a h1 h2 => m3 a (by omega))
      show V E κ 2 (0 + 3) (0 + 200) 57 [some (.ref B), some (.int (nI 1))] [.ref (S.1 + 1), .ref (B + 1)] S_54 im_54
      refine kX6_229 (pc := 57) C dX6_text_57 (c3_addText κ.2.1 E S_54 im_54 (B + 1) hs1 S.1 n7 (tx_key (im (B + 47)) T) m2.2.2.1 (by omega) c_40 (by rw [m7 _ (by omega), up2_n _ _ _ (by omega), fr4 _ (by omega) (by omega)]; exact hst.2.1.1.2.1) m5 hok.1) (sl_K hs1) (by decide) (Nat.le_of_ble_eq_true rfl) (by omega) (by omega) (fun S_57 im_57 h_57 => ?_)
      obtain ⟨eS, eI⟩ := h_57
      have hKB : S_57.2.1 B = 6 := by rw [← eS]; exact (m3 B (by omega)).1.trans (cl_K hC)
      have hr0 : S_57.2.2.2 B 0 = some (B + 1) := by rw [← eS]; show va_up S_54.2.2.2 (B + 1 + 3) _ B 0 = _; rw [up_n _ _ (by omega)]; exact (congrFun (m3 B (by omega)).2.2 0).trans (cl_r0 hC)
      have hK3 : S_57.2.1 (B + 1) = 3 := by rw [← eS]; exact hs1.1.1
      refine z_aload_n (pc := 60) C dX6_text_60 rfl ?_
      refine gX6_10 (pc := 61) C dX6_text_61 hKB hr0 ?_
      refine gX6_222 (pc := 64) C dX6_text_64 hK3 ?_
      refine z_eqi (y := nI (n7 + 1)) (by rw [← eI, up2_at, if_pos rfl]) ?_
      refine z_iconstN (pc := 67) C 1 dX6_text_67 ?_
      refine z_isubN (pc := 68) C dX6_text_68 (by omega) ?_
      refine z_widen (c1 := 3) (s1 := 200) (by omega) (by omega) ?_
      exact z_iret (pc := 69) C ρ dX6_text_69 (⟨_, rfl, by rw [r_text, if_pos hok, if_neg (show ¬ n7 = 14 by omega)]; rfl, ⟨n7 + 1, ST_text hst hX hT96 hok c_40 hy0 hfresh rfl (TXL_e m2 (fun a h1 h2 => by rw [← eS]; exact ⟨rfl, rfl, up_n _ _ (by omega)⟩)) (fun a h1 h2 => (m3 a h1).tr (by rw [← eS]; exact ⟨rfl, rfl, up_n _ _ h2⟩)) (fun t ht => by rw [← eS]; show va_up S_54.2.2.2 (B + 1 + 3) _ (B + 1 + 3) t = _; rw [up_s, up_n _ _ (by omega)]; exact congrFun (m3 _ (by omega)).2.2 t) (by rw [← eS]; show va_up S_54.2.2.2 (B + 1 + 3) _ (B + 1 + 3) n7 = _; rw [up_s, up_s]) (fun k hk => by rw [← eI, up2_n _ _ _ (by omega), up2_n _ _ _ (by omega), m4 k hk, up2_n _ _ _ (by omega)]; exact h4.2.2.2.2.2.2.1 k hk) (by rw [← eI, up2_n _ _ _ (by omega), up2_n _ _ _ (by omega)]; exact m5) (by rw [← eI, up2_n _ _ _ (by omega), up2_n _ _ _ (by omega)]; exact m6) (fun a h1 h2 h3 h5 h6 => by rw [← eI, up2_n _ _ _ h2, up2_n _ _ _ h3, m7 a h1, up2_n _ _ _ h5]; exact fr4 a h5 h6) (fun j hj => by rw [← eI, up2_at, if_neg hj, up2_n _ _ _ (by omega), m7 _ (by omega), up2_n _ _ _ (by omega), fr4 _ (by omega) (by omega)]) (by rw [← eI, up2_at, if_pos rfl]) (by rw [← eI, up2_n _ _ _ (by omega), up2_s, m7 _ (by omega), up2_n _ _ _ (by omega), fr4 _ (by omega) (by omega)])⟩, by rw [← eI, up2_n _ _ _ (by omega), up2_n _ _ _ (by omega), m7 _ (by omega), up2_at, if_pos rfl], Or.inr (by rw [← eS]; exact m1), fun a ha => by rw [← eS]; exact ⟨(m3 a ha).1, (m3 a ha).2.1, fun h => (up_n _ _ h).trans (m3 a ha).2.2⟩, fun a h1 h2 h3 h5 h6 => by rw [← eI, up2_n _ _ _ h2, up2_n _ _ _ h3, m7 a h1, up2_n _ _ _ h5]; exact fr4 a h5 h6⟩)
    · 
      refine z_ldc (pc := 43) C dX6_text_43 wk_X6_65 ?_
      refine z_widen (c1 := 3) (s1 := 200) (by omega) (by omega) ?_
      exact z_iret (pc := 45) C ρ dX6_text_45 (⟨_, rfl, by rw [r_text, if_pos hok, if_pos (show n7 = 14 by omega)], ⟨n7, by rw [f_text, if_pos hok, if_pos (show n7 = 14 by omega)]; exact ST_fr hst (fun a h1 h2 _ => by rw [up2_n _ _ _ (by omega)]; exact fr4 a (by omega) (by omega)) (fun a h1 _ => by rw [up2_n _ _ _ (by omega)]; exact fr4 a (by omega) (by omega))⟩, by rw [up2_at, if_pos rfl], Or.inl rfl, fun a _ => ⟨rfl, rfl, fun _ => rfl⟩, fun a _ h1 h2 h3 h4 => by rw [up2_n _ _ _ h3]; exact fr4 a h3 h4⟩)
  · 
    change ¬ tx_ok (im (B + 47)) T at hok
    change im_4 (B + 46) 3 = nI (tx_at (im (B + 47)) T) at h4
    refine z_istore_n (pc := 7) C dX6_text_7 (by decide) rfl ?_
    refine z_aload_n (pc := 8) C dX6_text_8 rfl ?_
    refine gX6_25 (pc := 9) C dX6_text_9 (cl_K hC) (cl_r4 hC) ?_
    refine z_iconstN (pc := 12) C 0 dX6_text_12 ?_
    refine pX6_210 (pc := 13) C dX6_text_13 (cl_kr hC) ?_
    refine z_iload_n (pc := 16) C dX6_text_16 rfl ?_
    refine z_if_neF (pc := 17) C 31 dX6_text_17 (by decide) (by decide) ?_
    refine z_bipush (v := -100) (pc := 20) C dX6_text_20 (by decide) ?_
    refine z_aload_n (pc := 22) C dX6_text_22 rfl ?_
    refine gX6_25 (pc := 23) C dX6_text_23 (cl_K hC) (cl_r4 hC) ?_
    refine gX6_219 (pc := 26) C dX6_text_26 (cl_kr hC) ?_
    refine z_eqi (y := nI (tx_at (im (B + 47)) T)) (by rw [up2_at, if_neg (by decide)]; exact h4) ?_
    refine z_isub (pc := 29) C dX6_text_29 ?_
    refine z_widen (c1 := 3) (s1 := 200) (by omega) (by omega) ?_
    exact z_iret (pc := 30) C ρ dX6_text_30 (⟨_, rfl, by rw [r_text, if_neg hok], ⟨n7, by rw [f_text, if_neg hok]; exact ST_fr hst (fun a h1 h2 _ => by rw [up2_n _ _ _ (by omega)]; exact fr4 a (by omega) (by omega)) (fun a h1 _ => by rw [up2_n _ _ _ (by omega)]; exact fr4 a (by omega) (by omega))⟩, by rw [up2_at, if_pos rfl], Or.inl rfl, fun a _ => ⟨rfl, rfl, fun _ => rfl⟩, fun a _ h1 h2 h3 h4 => by rw [up2_n _ _ _ h3]; exact fr4 a h3 h4⟩)
