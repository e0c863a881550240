/-! what is read is a text that can be worked out -/
def okC (nn : Nat) : Nat → List Int32 → Nat → Prop
  | D, [], D' => D = D'
  | D, x :: xs, D' => ((∃ j, j < 10000 + nn ∧ x = nI j) ∧ okC nn (D + 1) xs D') ∨ ((x = -10 ∧ 1 ≤ D) ∧ okC nn D xs D') ∨ (((∃ j, 1 ≤ j ∧ j ≤ 9 ∧ x = 0 - nI j) ∧ 2 ≤ D) ∧ okC nn (D - 1) xs D')
theorem okC_app {nn : Nat} {ys : List Int32} {E F : Nat} (hy : okC nn E ys F) : ∀ (xs : List Int32) (D : Nat), okC nn D xs E → okC nn D (xs ++ ys) F := by
  intro xs
  induction xs with
  | nil =>
    intro D h
    have e : D = E := h
    rw [e]
    exact hy
  | cons x xs ih =>
    intro D h
    rcases h with h | h | h
    · exact Or.inl ⟨h.1, ih _ h.2⟩
    · exact Or.inr (Or.inl ⟨h.1, ih _ h.2⟩)
    · exact Or.inr (Or.inr ⟨h.1, ih _ h.2⟩)
/-- operands of a row of codes -/
def cO : List Int32 → Nat
  | [] => 0
  | x :: xs => (if 0 ≤ x then 1 else 0) + cO xs
theorem cO_app (ys : List Int32) : ∀ xs, cO (xs ++ ys) = cO xs + cO ys := by
  intro xs
  induction xs with
  | nil => rw [List.nil_append, cO, Nat.zero_add]
  | cons x xs ih => rw [List.cons_append, cO, cO, ih]; omega
theorem dig_val {x : Int32} (h : isDb x = true) : ∃ k, k < 10 ∧ x = nI (48 + k) := by
  rw [isDb, decide_eq_true_eq] at h
  obtain ⟨k, h1, h2, rfl⟩ := (rng (by decide) (by decide)).mp h
  exact ⟨k - 48, by omega, by rw [show 48 + (k - 48) = k by omega]⟩
theorem vl_val {a : Nat → Int32} {s : Nat} : ∀ k, k ≤ 4 → (∀ i, i < k → isDb (a (s + i)) = true) → ∃ j, j < 10 ^ k ∧ vl a s k = nI j := by
  intro k
  induction k with
  | zero => intro _ _; exact ⟨0, by decide, rfl⟩
  | succ k ih =>
    intro hk h
    obtain ⟨j, hj, ej⟩ := ih (by omega) (fun i hi => h i (by omega))
    obtain ⟨c, hc, ec⟩ := dig_val (h k (by omega))
    refine ⟨10 * j + c, by rw [Nat.pow_succ]; omega, ?_⟩
    rw [vl, if_pos (by omega), ej, ec, show nI 10 * nI j = nI (10 * j) from (Int32.ofNat_mul 10 j).symm, nI_add, pk_sub (by omega)]
    congr 1
    omega
theorem tK_dig {a : Nat → Int32} {T p : Nat} {w : Bool} (h : tK a T p w = 2) : isDb (a (tS a T p)) = true ∧ tE a T p - tS a T p ≤ 4 ∧ ∀ j, tS a T p ≤ j → j < tE a T p → isDb (a j) = true := by
  have hs := (tK12 (Or.inr h)).1
  rw [tK, if_neg hs] at h
  by_cases hl : isLb (a (tS a T p)) = true
  · rw [if_pos hl] at h
    split at h <;> omega
  · rw [if_neg hl] at h
    by_cases hd : isDb (a (tS a T p)) = true
    · rw [if_pos hd] at h
      refine ⟨hd, ?_, fun j h1 h2 => ?_⟩
      · split at h
        · omega
        · split at h
          · assumption
          · omega
      · rw [tE, if_neg hs, if_neg hl, if_pos hd] at h2
        exact rn_all _ _ j h1 h2
    · rw [if_neg hd] at h; omega
theorem name_val {key : Nat} (hk : key < 3) {x : Int32} (h : ¬ s_name (nI key) x < 0) : ∃ j, j < nnm key ∧ s_name (nI key) x = nI j := by
  rcases (show key = 0 ∨ key = 1 ∨ key = 2 by omega) with rfl | rfl | rfl
  · rw [s_name, if_pos rfl] at h ⊢
    by_cases e1 : x = nI 111
    · rw [if_pos e1]; exact ⟨0, by decide, rfl⟩
    rw [if_neg e1] at h ⊢
    by_cases e2 : x = nI 119
    · rw [if_pos e2]; exact ⟨1, by decide, rfl⟩
    rw [if_neg e2] at h ⊢
    by_cases e3 : x = nI 115
    · rw [if_pos e3]; exact ⟨2, by decide, rfl⟩
    rw [if_neg e3] at h
    exact absurd (by decide) h
  · rw [s_name, if_neg (by decide), if_pos rfl] at h ⊢
    by_cases e1 : x = nI 110
    · rw [if_pos e1]; exact ⟨0, by decide, rfl⟩
    rw [if_neg e1] at h ⊢
    by_cases e2 : x = nI 119
    · rw [if_pos e2]; exact ⟨1, by decide, rfl⟩
    rw [if_neg e2] at h
    exact absurd (by decide) h
  · rw [s_name, if_neg (by decide), if_neg (by decide)] at h ⊢
    by_cases e1 : x = nI 112
    · rw [if_pos e1]; exact ⟨0, by decide, rfl⟩
    rw [if_neg e1] at h ⊢
    by_cases e2 : x = nI 100
    · rw [if_pos e2]; exact ⟨1, by decide, rfl⟩
    rw [if_neg e2] at h
    exact absurd (by decide) h
theorem pt_val {a : Nat → Int32} {T p key : Nat} {w : Bool} (hp : p ≤ T) (hk : key < 3) (h : isPb a T p w (nI key) = true) : ∃ j, j < 10000 + nnm key ∧ ptC a T p w (nI key) = nI j := by
  have h' := isPb_iff.mp h
  by_cases e : tK a T p w = 2
  · obtain ⟨h1, h2, h3⟩ := tK_dig e
    have hgt := tE_gt hp (tK12 (Or.inr e)).1
    obtain ⟨j, hj, ej⟩ := vl_val (a := a) (s := tS a T p) (tE a T p - tS a T p) h2 (fun i hi => h3 _ (by omega) (by omega))
    have hle : 10 ^ (tE a T p - tS a T p) ≤ 10 ^ 4 := Nat.pow_le_pow_right (by decide) h2
    refine ⟨j, ?_, ?_⟩
    · have : (10 : Nat) ^ 4 = 10000 := by decide
      omega
    · rw [ptC, if_pos e, tV, if_pos h1, ej]
  · have h2 := h'.resolve_left e
    obtain ⟨j, hj, ej⟩ := name_val hk h2.2.2
    refine ⟨10000 + j, by omega, ?_⟩
    rw [ptC, if_neg e, ej, nI_add]
theorem sg_val {x : Int32} (h : ¬ s_sign x = 0) : ∃ j, 1 ≤ j ∧ j ≤ 9 ∧ s_sign x = 0 - nI j := by
  unfold s_sign at h ⊢
  by_cases e1 : x = nI 38
  · rw [if_pos e1]; exact ⟨2, by decide, by decide, by decide⟩
  rw [if_neg e1] at h ⊢
  by_cases e2 : x = nI 42
  · rw [if_pos e2]; exact ⟨8, by decide, by decide, by decide⟩
  rw [if_neg e2] at h ⊢
  by_cases e3 : x = nI 43
  · rw [if_pos e3]; exact ⟨6, by decide, by decide, by decide⟩
  rw [if_neg e3] at h ⊢
  by_cases e4 : x = nI 45
  · rw [if_pos e4]; exact ⟨7, by decide, by decide, by decide⟩
  rw [if_neg e4] at h ⊢
  by_cases e5 : x = nI 47
  · rw [if_pos e5]; exact ⟨9, by decide, by decide, by decide⟩
  rw [if_neg e5] at h ⊢
  by_cases e6 : x = nI 60
  · rw [if_pos e6]; exact ⟨3, by decide, by decide, by decide⟩
  rw [if_neg e6] at h ⊢
  by_cases e7 : x = nI 61
  · rw [if_pos e7]; exact ⟨4, by decide, by decide, by decide⟩
  rw [if_neg e7] at h ⊢
  by_cases e8 : x = nI 62
  · rw [if_pos e8]; exact ⟨5, by decide, by decide, by decide⟩
  rw [if_neg e8] at h ⊢
  by_cases e9 : x = nI 124
  · rw [if_pos e9]; exact ⟨1, by decide, by decide, by decide⟩
  rw [if_neg e9] at h
  exact absurd rfl h
theorem neg_val {j : Nat} (h1 : 1 ≤ j) (h9 : j ≤ 9) : ¬ (0 : Int32) ≤ 0 - nI j := by
  have : ∀ k : Fin 10, 1 ≤ k.val → ¬ (0 : Int32) ≤ 0 - nI k.val := by decide
  exact this ⟨j, by omega⟩ h1
/-- what is read goes behind: a segment, one deeper -/
def sgR (nn T : Nat) (f : RS → Bool × RS) : Prop := ∀ σ : RS, σ.1 ≤ T → (f σ).1 = true → ∃ xs, (f σ).2.2.2.1 = σ.2.2.1 ++ xs ∧ (∀ D, okC nn D xs (D + 1)) ∧ (f σ).2.2.2.2 = σ.2.2.2 + cO xs ∧ xs.length + σ.1 ≤ (f σ).2.1
theorem rows_sg {a : Nat → Int32} {T l nn : Nat} {f : RS → Bool × RS} (hf : sgR nn T f) (hp : rdP T f) : ∀ i σ, σ.1 ≤ T → (r_rows f a T l i σ).1 = true → ∃ xs, (r_rows f a T l i σ).2.2.2.1 = σ.2.2.1 ++ xs ∧ (∀ D, okC nn (D + 1) xs (D + 1)) ∧ (r_rows f a T l i σ).2.2.2.2 = σ.2.2.2 + cO xs ∧ xs.length + σ.1 ≤ (r_rows f a T l i σ).2.1 := by
  intro i
  induction i with
  | zero => intro σ _ _; exact ⟨[], (List.append_nil _).symm, fun _ => rfl, rfl, Nat.le_of_eq (Nat.zero_add _)⟩
  | succ i ih =>
    intro σ h
    rw [r_rows]
    by_cases e : r_wk a T l σ = 0
    · rw [if_pos e]; intro _; exact ⟨[], (List.append_nil _).symm, fun _ => rfl, rfl, Nat.le_of_eq (Nat.zero_add _)⟩
    · rw [if_neg e]
      obtain ⟨s0, srk, swk⟩ := r_wk_s e
      have h1 := r_nx_pos h (tK3 (r_sg_s s0))
      have h2 := hp (r_nx a T σ) h1.2
      by_cases e2 : (f (r_nx a T σ)).1 = true
      · rw [if_pos e2]
        intro hr
        obtain ⟨xs, hx, hD, hc, hn⟩ := hf (r_nx a T σ) h1.2 e2
        obtain ⟨ys, hy, hE, hd, hm⟩ := ih (r_ap (f (r_nx a T σ)).2 [r_wk a T l σ]) h2.2.1 hr
        obtain ⟨j, hj1, hj9, ej⟩ : ∃ j, 1 ≤ j ∧ j ≤ 9 ∧ r_wk a T l σ = 0 - nI j := by
          rw [swk, r_sg, if_pos (r_sg_s s0)]
          exact sg_val (by have := s0; rw [r_sg, if_pos (r_sg_s s0)] at this; exact this)
        refine ⟨xs ++ ([r_wk a T l σ] ++ ys), ?_, fun D => ?_, ?_, ?_⟩
        · rw [hy]
          show (f (r_nx a T σ)).2.2.2.1 ++ [r_wk a T l σ] ++ ys = _
          rw [hx]
          show σ.2.2.1 ++ xs ++ [r_wk a T l σ] ++ ys = _
          simp only [List.append_assoc]
        · refine okC_app ?_ xs (D + 1) (hD (D + 1))
          exact Or.inr (Or.inr ⟨⟨⟨j, hj1, hj9, ej⟩, by omega⟩, hE D⟩)
        · rw [hd]
          show (f (r_nx a T σ)).2.2.2.2 + cO ys = _
          rw [hc, cO_app, cO_app, cO, cO, if_neg (by rw [ej]; exact neg_val hj1 hj9)]
          show σ.2.2.2 + cO xs + cO ys = _
          omega
        · rw [List.length_append, List.length_append, List.length_singleton]
          have hm2 : ys.length + (f (r_nx a T σ)).2.1 ≤ (r_rows f a T l i (r_ap (f (r_nx a T σ)).2 [r_wk a T l σ])).2.1 := hm
          omega
      · rw [if_neg e2]; intro q; exact absurd q Bool.false_ne_true
theorem rd_sg (a : Nat → Int32) (T key : Nat) (hk : key < 3) : ∀ d l pr b, sgR (nnm key) T (rd a T (nI key) d l pr b) := by
  intro d
  induction d with
  | zero => intro l pr b σ h q; exact absurd q Bool.false_ne_true
  | succ d ih =>
    intro l pr b σ h
    rw [rd]
    by_cases hl : l = 5
    · rw [if_pos hl]
      by_cases h1 : isPb a T σ.1 σ.2.1 (nI key) = true
      · rw [if_pos h1]
        intro _
        obtain ⟨j, hj, ej⟩ := pt_val h hk h1
        have hn3 : nnm key ≤ 3 := by unfold nnm; split <;> omega
        refine ⟨[ptC a T σ.1 σ.2.1 (nI key)], rfl, fun D => Or.inl ⟨⟨j, hj, ej⟩, rfl⟩, ?_, ?_⟩
        · rw [cO, cO, if_pos (by rw [ej]; exact nI_pos' (by omega))]
          rfl
        · have hs := (tK12 (show tK a T σ.1 σ.2.1 = 1 ∨ tK a T σ.1 σ.2.1 = 2 from (isPb_iff.mp h1).elim Or.inr (fun q => Or.inl q.1))).1
          have := r_nx_pos h hs
          show 1 + σ.1 ≤ (r_nx a T σ).1
          omega
      · rw [if_neg h1]
        by_cases h2 : r_ch a T σ 33 = true ∧ b < 8
        · rw [if_pos h2]
          have h3 := r_nx_pos h (r_ch_s h2.1)
          by_cases e : (rd a T (nI key) d 5 pr (b + 1) (r_nx a T σ)).1 = true
          · rw [if_pos e]
            intro _
            obtain ⟨xs, hx, hD, hc, hn⟩ := ih 5 pr (b + 1) (r_nx a T σ) h3.2 e
            refine ⟨xs ++ [-10], ?_, fun D => okC_app (nn := nnm key) (ys := [-10]) (E := D + 1) (F := D + 1) (Or.inr (Or.inl ⟨⟨rfl, by omega⟩, rfl⟩)) xs D (hD D), ?_, ?_⟩
            · show (rd a T (nI key) d 5 pr (b + 1) (r_nx a T σ)).2.2.2.1 ++ [-10] = _
              rw [hx, List.append_assoc]
              rfl
            · rw [cO_app]
              show (rd a T (nI key) d 5 pr (b + 1) (r_nx a T σ)).2.2.2.2 = _
              rw [hc]
              rfl
            · rw [List.length_append, List.length_singleton]
              show xs.length + 1 + σ.1 ≤ (rd a T (nI key) d 5 pr (b + 1) (r_nx a T σ)).2.1
              omega
          · rw [if_neg e]; intro q; exact absurd q Bool.false_ne_true
        · rw [if_neg h2]
          by_cases h5 : r_ch a T σ 40 = true ∧ pr < 8
          · rw [if_pos h5]
            have h3 := r_nx_pos h (r_ch_s h5.1)
            split
            · rename_i h6
              intro _
              obtain ⟨xs, hx, hD, hc, hn⟩ := ih 0 (pr + 1) b (r_nx a T σ) h3.2 h6.1
              have h4 := rd_pos a T (nI key) d 0 (pr + 1) b (r_nx a T σ) h3.2
              have h7 := r_nx_pos h4.2.1 (r_ch_s h6.2)
              refine ⟨xs, hx, hD, hc, ?_⟩
              show xs.length + σ.1 ≤ (r_nx a T (rd a T (nI key) d 0 (pr + 1) b (r_nx a T σ)).2).1
              omega
            · intro q; exact absurd q Bool.false_ne_true
          · rw [if_neg h5]; intro q; exact absurd q Bool.false_ne_true
    · rw [if_neg hl]
      by_cases e : (rd a T (nI key) d (l + 1) pr b σ).1 = true
      · rw [if_pos e]
        intro hr
        have h4 := rd_pos a T (nI key) d (l + 1) pr b σ h
        obtain ⟨xs, hx, hD, hc, hn⟩ := ih (l + 1) pr b σ h e
        obtain ⟨ys, hy, hE, hd, hm⟩ := rows_sg (a := a) (l := l) (ih (l + 1) pr b) (rd_pos a T (nI key) d (l + 1) pr b) (if l = 2 then 1 else 96) _ h4.2.1 hr
        refine ⟨xs ++ ys, by rw [hy, hx, List.append_assoc], fun D => okC_app (hE D) xs D (hD D), by rw [hd, hc, cO_app]; omega, by rw [List.length_append]; omega⟩
      · rw [if_neg e]; intro q; exact absurd q Bool.false_ne_true
theorem okC_RP {nn : Nat} (hnn : nn ≤ 3) {g : Nat → Int32} : ∀ (xs : List Int32) (p D E : Nat), okC nn D xs E → (∀ i, i < xs.length → g (p + i) = xs.getD i 0) → dpN g p = D → (∀ i, i < xs.length → (∃ j, j < 10000 + nn ∧ g (p + i) = nI j) ∨ (g (p + i) = -10 ∧ 1 ≤ dpN g (p + i)) ∨ (∃ j, 1 ≤ j ∧ j ≤ 9 ∧ g (p + i) = 0 - nI j ∧ 2 ≤ dpN g (p + i))) ∧ dpN g (p + xs.length) = E := by
  intro xs
  induction xs with
  | nil =>
    intro p D E h _ hd
    refine ⟨fun i hi => absurd hi (Nat.not_lt_zero _), ?_⟩
    have e : D = E := h
    rw [← e]
    exact hd
  | cons x xs ih =>
    intro p D E h hg hd
    have g0 : g p = x := hg 0 (by simp)
    have hg' : ∀ i, i < xs.length → g (p + 1 + i) = xs.getD i 0 := fun i hi => by
      have := hg (i + 1) (by simp; omega)
      rw [List.getD_cons_succ] at this
      rw [← this]
      congr 1
      omega
    have fin : ∀ D', okC nn D' xs E → dpN g (p + 1) = D' → ((∃ j, j < 10000 + nn ∧ g p = nI j) ∨ (g p = -10 ∧ 1 ≤ dpN g p) ∨ (∃ j, 1 ≤ j ∧ j ≤ 9 ∧ g p = 0 - nI j ∧ 2 ≤ dpN g p)) → (∀ i, i < (x :: xs).length → (∃ j, j < 10000 + nn ∧ g (p + i) = nI j) ∨ (g (p + i) = -10 ∧ 1 ≤ dpN g (p + i)) ∨ (∃ j, 1 ≤ j ∧ j ≤ 9 ∧ g (p + i) = 0 - nI j ∧ 2 ≤ dpN g (p + i))) ∧ dpN g (p + (x :: xs).length) = E := by
      intro D' hx hd' hv
      obtain ⟨q1, q2⟩ := ih (p + 1) D' E hx hg' hd'
      refine ⟨fun i hi => ?_, ?_⟩
      · cases i with
        | zero => exact hv
        | succ i =>
          have := q1 i (by simp at hi; omega)
          rw [show p + 1 + i = p + (i + 1) by omega] at this
          exact this
      · rw [List.length_cons, show p + (xs.length + 1) = p + 1 + xs.length by omega]
        exact q2
    rcases h with ⟨⟨j, hj, e⟩, hx⟩ | ⟨⟨e, h1⟩, hx⟩ | ⟨⟨⟨j, hj1, hj9, e⟩, h2⟩, hx⟩
    · exact fin _ hx (by rw [dpN, g0, e, if_pos (nI_pos' (by omega)), hd]) (Or.inl ⟨j, hj, by rw [g0, e]⟩)
    · exact fin _ hx (by rw [dpN, g0, e, if_neg (by decide), if_pos rfl, hd]) (Or.inr (Or.inl ⟨by rw [g0, e], by omega⟩))
    · exact fin _ hx (by rw [dpN, g0, e, if_neg (neg_nI j hj1 hj9).1, if_neg (neg_nI j hj1 hj9).2, hd]) (Or.inr (Or.inr ⟨j, hj1, hj9, by rw [g0, e], by omega⟩))
theorem dpN_cg {g h : Nat → Int32} : ∀ m, (∀ k, k < m → g k = h k) → dpN g m = dpN h m := by
  intro m
  induction m with
  | zero => intro _; rfl
  | succ m ih => intro e; rw [dpN, dpN, e m (by omega), ih (fun k hk => e k (by omega))]
theorem RP_cg {nn m : Nat} {g h : Nat → Int32} (hr : RP nn g m) (e : ∀ k, k < m → h k = g k) : RP nn h m := by
  refine ⟨hr.1, by rw [dpN_cg m e]; exact hr.2.1, fun k hk => ?_⟩
  rw [e k hk, dpN_cg k (fun i hi => e i (by omega))]
  exact hr.2.2 k hk
theorem TxOk_cg {f g : Nat → Int32} {t key m : Nat} (h : TxOk f t key m) (e1 : g (78 + 2 * t) = f (78 + 2 * t)) (e2 : ∀ k, k < 96 → g (106 + 96 * t + k) = f (106 + 96 * t + k)) : TxOk g t key m := ⟨h.1, by rw [e1]; exact h.2.1, RP_cg h.2.2 (fun k hk => e2 k (by have := h.2.2.1; omega))⟩
/-- what is read of a text: its codes can be worked out, its operands are counted, it fits -/
theorem tx_val {a : Nat → Int32} {T : Nat} (h : tx_ok a T) : (tx_rd a T).2.2.2.1.length ≤ T ∧ okC (nnm (tx_key a T)) 0 (tx_rd a T).2.2.2.1 1 ∧ (tx_rd a T).2.2.2.2 = cO (tx_rd a T).2.2.2.1 := by
  have hp := rd_pos a T (nI (tx_key a T)) 70 0 0 0 (tE a T 0, true, [], 0) (tE_le (Nat.zero_le _))
  obtain ⟨xs, hx, hD, hc, hn⟩ := rd_sg a T (tx_key a T) h.1 70 0 0 0 (tE a T 0, true, [], 0) (tE_le (Nat.zero_le _)) h.2.1
  have e : (tx_rd a T).2.2.2.1 = xs := by
    have : (tx_rd a T).2.2.2.1 = [] ++ xs := hx
    rw [this, List.nil_append]
  rw [e]
  refine ⟨?_, hD 0, ?_⟩
  · have h1 : xs.length + tE a T 0 ≤ (tx_rd a T).2.1 := hn
    have h2 : (tx_rd a T).2.1 ≤ T := hp.2.1
    omega
  · have h1 : (tx_rd a T).2.2.2.2 = 0 + cO xs := hc
    rw [h1, Nat.zero_add]
theorem mok_text {f a : Nat → Int32} {n n7 T : Nat} (hok : MOk f n n7) (hT : T ≤ 96) (h14 : ¬ n7 = 14) (h : tx_ok a T) : MOk (f_text f a T n7) n (n7 + 1) := by
  obtain ⟨hl, hD, -⟩ := tx_val h
  have h7 := hok.2.1.1
  rw [f_text, if_pos h, if_neg h14]
  refine ⟨⟨hok.1.1, ?_⟩, ⟨by omega, upd_s _ _ _⟩, fun t ht => ?_⟩
  · rw [upd_n _ _ (by decide), tx_pl, if_neg (by omega), upd_n _ _ (by omega), upd_n _ _ (by omega)]
    exact hok.1.2
  · by_cases e : t = n7
    · subst e
      refine ⟨tx_key a T, (tx_rd a T).2.2.2.1.length, h.1, ?_, ?_⟩
      · rw [upd_n _ _ (by omega), tx_pl, if_neg (by omega), upd_n _ _ (by omega), upd_s]
      · have hg : ∀ i, i < (tx_rd a T).2.2.2.1.length → s_row (upd (tx_pl f (tx_rd a T).2.2.2.1 (tx_key a T) (tx_rd a T).2.2.2.2 t (tx_rd a T).2.2.2.1.length) 7 (nI (t + 1))) t (0 + i) = (tx_rd a T).2.2.2.1.getD i 0 := fun i hi => by
          rw [s_row, upd_n _ _ (by omega), tx_pl, if_pos ⟨by omega, by omega⟩, show 106 + 96 * t + (0 + i) - (106 + 96 * t) = i by omega]
        obtain ⟨q1, q2⟩ := okC_RP (by unfold nnm; split <;> omega) _ 0 0 1 hD hg rfl
        refine ⟨by omega, by rw [Nat.zero_add] at q2; exact q2, fun k hk => ?_⟩
        have := q1 k hk
        rw [Nat.zero_add] at this
        exact this
    · obtain ⟨key, m, hx⟩ := hok.2.2 t (by omega)
      refine ⟨key, m, TxOk_cg hx ?_ (fun k hk => ?_)⟩
      · rw [upd_n _ _ (by omega), tx_pl, if_neg (by omega), upd_n _ _ (by omega), upd_n _ _ (by omega)]
      · rw [upd_n _ _ (by omega), tx_pl, if_neg (by omega), upd_n _ _ (by omega), upd_n _ _ (by omega)]
