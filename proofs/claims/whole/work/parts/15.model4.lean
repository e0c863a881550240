/-! THE ORDER: lamps by their turn, of several the lesser number -/
def bf (f : Nat → Int32) (a b : Nat) : Prop := s_turn f a < s_turn f b ∨ (s_turn f a = s_turn f b ∧ a < b)
def insL (f : Nat → Int32) (x : Nat) : List Nat → List Nat
  | [] => [x]
  | a :: r => if s_turn f x < s_turn f a then x :: a :: r else a :: insL f x r
def ordL (f : Nat → Int32) : Nat → List Nat
  | 0 => []
  | n + 1 => insL f n (ordL f n)
theorem bf_asym {f : Nat → Int32} {a b : Nat} (h : bf f a b) (g : bf f b a) : False := by
  simp only [bf, Int32.lt_iff_toInt_lt, ← Int32.toInt_inj] at h g
  omega
theorem bf_trans {f : Nat → Int32} {a b c : Nat} (h : bf f a b) (g : bf f b c) : bf f a c := by
  simp only [bf, Int32.lt_iff_toInt_lt, ← Int32.toInt_inj] at h g ⊢
  omega
theorem mem_insL (f : Nat → Int32) (x y : Nat) : ∀ l, y ∈ insL f x l ↔ y = x ∨ y ∈ l := by
  intro l
  induction l with
  | nil => simp [insL]
  | cons a r ih =>
    rw [insL]
    split
    · simp
    · simp only [List.mem_cons, ih]
      constructor
      · rintro (h | h | h)
        · exact Or.inr (Or.inl h)
        · exact Or.inl h
        · exact Or.inr (Or.inr h)
      · rintro (h | h | h)
        · exact Or.inr (Or.inl h)
        · exact Or.inl h
        · exact Or.inr (Or.inr h)
theorem len_insL (f : Nat → Int32) (x : Nat) : ∀ l, (insL f x l).length = l.length + 1 := by
  intro l
  induction l with
  | nil => rfl
  | cons a r ih => rw [insL]; split <;> simp [ih]
theorem mem_ordL (f : Nat → Int32) (y : Nat) : ∀ n, y ∈ ordL f n ↔ y < n := by
  intro n
  induction n with
  | zero => simp [ordL]
  | succ n ih => rw [ordL, mem_insL, ih]; omega
theorem len_ordL (f : Nat → Int32) : ∀ n, (ordL f n).length = n := by
  intro n
  induction n with
  | zero => rfl
  | succ n ih => rw [ordL, len_insL, ih]
theorem pw_insL {f : Nat → Int32} {x : Nat} : ∀ l : List Nat, l.Pairwise (bf f) → (∀ a ∈ l, a < x) → (insL f x l).Pairwise (bf f) := by
  intro l
  induction l with
  | nil => intro _ _; simp [insL]
  | cons a r ih =>
    intro h hx
    rw [List.pairwise_cons] at h
    rw [insL]
    by_cases hc : s_turn f x < s_turn f a
    · rw [if_pos hc, List.pairwise_cons]
      refine ⟨fun b hb => ?_, List.pairwise_cons.mpr h⟩
      rcases List.mem_cons.mp hb with rfl | hb
      · exact Or.inl hc
      · exact bf_trans (Or.inl hc) (h.1 b hb)
    · rw [if_neg hc, List.pairwise_cons]
      refine ⟨fun b hb => ?_, ih h.2 (fun b hb => hx b (List.mem_cons_of_mem _ hb))⟩
      rcases (mem_insL f x b r).mp hb with rfl | hb
      · have := hx a List.mem_cons_self
        simp only [bf, Int32.lt_iff_toInt_lt, ← Int32.toInt_inj] at hc ⊢
        omega
      · exact h.1 b hb
theorem pw_ordL (f : Nat → Int32) : ∀ n, (ordL f n).Pairwise (bf f) := by
  intro n
  induction n with
  | zero => simp [ordL]
  | succ n ih => exact pw_insL _ ih (fun a ha => (mem_ordL f a n).mp ha)
/-- the lamp at place i -/
def ordA (f : Nat → Int32) (n i : Nat) : Nat := (ordL f n).getD i 0
theorem ordA_at {f : Nat → Int32} {n i : Nat} (h : i < n) : (ordL f n)[i]? = some (ordA f n i) := by
  have hl := len_ordL f n
  rw [ordA, List.getD_eq_getElem?_getD, List.getElem?_eq_getElem (by omega)]
  rfl
theorem ordA_lt {f : Nat → Int32} {n i : Nat} (h : i < n) : ordA f n i < n := (mem_ordL f _ n).mp (List.mem_of_getElem? (ordA_at h))
theorem ordA_bf {f : Nat → Int32} {n i j : Nat} (hij : i < j) (hj : j < n) : bf f (ordA f n i) (ordA f n j) := by
  have h := List.pairwise_iff_getElem.mp (pw_ordL f n) i j (by rw [len_ordL]; omega) (by rw [len_ordL]; omega) hij
  have h1 := ordA_at (f := f) (n := n) (i := i) (by omega)
  have h2 := ordA_at (f := f) (n := n) (i := j) (by omega)
  rw [List.getElem?_eq_getElem (by rw [len_ordL]; omega)] at h1 h2
  rw [Option.some.inj h1, Option.some.inj h2] at h
  exact h
theorem ordA_inj {f : Nat → Int32} {n i j : Nat} (hi : i < n) (hj : j < n) (h : ordA f n i = ordA f n j) : i = j := by
  rcases Nat.lt_trichotomy i j with h1 | h1 | h1
  · have := ordA_bf (f := f) h1 hj; rw [h] at this; exact (bf_asym this this).elim
  · exact h1
  · have := ordA_bf (f := f) h1 hi; rw [h] at this; exact (bf_asym this this).elim
theorem ordA_sur {f : Nat → Int32} {n l0 : Nat} (h : l0 < n) : ∃ i, i < n ∧ ordA f n i = l0 := by
  obtain ⟨i, hi⟩ := List.getElem?_of_mem ((mem_ordL f l0 n).mpr h)
  have hl := (List.getElem?_eq_some_iff.mp hi).1
  rw [len_ordL] at hl
  exact ⟨i, hl, Option.some.inj ((ordA_at hl).symm.trans hi)⟩
/-- the i first ones are placed -/
def plc (f : Nat → Int32) (n i l0 : Nat) : Prop := ∃ j, j < i ∧ ordA f n j = l0
theorem plc_best {f : Nat → Int32} {n i b : Nat} (hi : i < n) (hb : b < n) (hn : ¬ plc f n i b) (hm : ∀ l0, l0 < n → ¬ plc f n i l0 → l0 = b ∨ bf f b l0) : b = ordA f n i := by
  obtain ⟨j, hj, e⟩ := ordA_sur (f := f) hb
  have hji : i ≤ j := Nat.not_lt.mp fun h => hn ⟨j, h, e⟩
  have hp : ¬ plc f n i (ordA f n i) := by
    rintro ⟨k, hk, e2⟩
    have := ordA_inj (by omega) hi e2
    omega
  rcases hm _ (ordA_lt hi) hp with h | h
  · exact h.symm
  · by_cases hij : i = j
    · subst hij; exact e.symm
    · have := ordA_bf (f := f) (show i < j by omega) hj
      rw [e] at this
      exact (bf_asym h this).elim
theorem plc_succ {f : Nat → Int32} {n i l0 : Nat} : plc f n (i + 1) l0 ↔ plc f n i l0 ∨ l0 = ordA f n i := by
  constructor
  · rintro ⟨j, hj, e⟩
    by_cases h : j = i
    · subst h; exact Or.inr e.symm
    · exact Or.inl ⟨j, by omega, e⟩
  · rintro (⟨j, hj, e⟩ | e)
    · exact ⟨j, by omega, e⟩
    · exact ⟨i, by omega, e.symm⟩
def frO (M : Nat) (im im' : Mem) : Prop := ∀ a, a ≠ M + 4 → a ≠ M + 5 → im' a = im a
set_option maxRecDepth 100000 in
set_option maxHeartbeats 4000000 in
theorem m7_findOrder (l : Launch) (E : Ex) (S : Sx) (im : Mem) (M : Nat) (hM : ML S M) (n n7 : Nat) (hok : MOk (im (M + 1)) n n7) : Mt l E yX7_findOrder cX7_findOrder 4 none 3 0 0 [.ref M] S im (pV (fun S' im' => S = S' ∧ (∀ i, i < n → im' (M + 4) i = nI (ordA (im (M + 1)) n i)) ∧ frO M im im')) := by
  refine Mt.of (by decide +kernel) rfl rfl (Nat.le_of_ble_eq_true rfl) ?_
  intro κ hκ C ρ
  subst hκ
  show V E κ 4 0 0 0 [some (.ref M), none, none, none] [] S im
  have rest2 : ∀ im0 : Mem, (∀ a, a ≠ M + 5 → im0 a = im a) → (∀ j, j < 10 → im0 (M + 5) j = nI 0) → ∀ x1 : Option Value, V E κ 4 0 0 21 [some (.ref M), x1, none, none] [] S im0 := by
    intro im0 hf0 hz0 x1
    have loop2 : ∀ (r i : Nat) (im' : Mem) (x2 x3 : Option Value), i + r = n → frO M im im' → (∀ j, j < i → im' (M + 4) j = nI (ordA (im (M + 1)) n j)) → (∀ l0, l0 < 10 → (im' (M + 5) l0 = nI 0 ∧ ¬ plc (im (M + 1)) n i l0) ∨ (im' (M + 5) l0 = nI 1 ∧ plc (im (M + 1)) n i l0)) → V E κ 4 0 0 23 [some (.ref M), some (.int (nI i)), x2, x3] [] S im' := by
      intro r
      induction r with
      | zero =>
        intro i im' x2 x3 hi hf hr hp
        have hin : i = n := by omega
        refine z_iload_n (pc := 23) C dX7_findOrder_23 rfl ?_
        refine z_aload_n (pc := 24) C dX7_findOrder_24 rfl ?_
        refine gX7_9 (pc := 25) C dX7_findOrder_25 (ml_K hM) (ml_r0 hM) ?_
        refine z_iconstN (pc := 28) C 1 dX7_findOrder_28 ?_
        refine z_iald (pc := 29) C dX7_findOrder_29 (ml_a1 hM) (ml_n1 hM) (by omega) (by decide) ?_
        refine z_eqi (y := nI n) (by rw [hf _ (by omega) (by omega)]; exact hok.1.2) ?_
        refine z_icmp_geT (pc := 30) C 105 dX7_findOrder_30 (by decide) (nI_le (by omega) (by have := hok.1.1; omega)) ?_
        exact z_vret (pc := 105) C ρ dX7_findOrder_105 (⟨rfl, rfl, fun j hj => hr j (by omega), hf⟩)
      | succ r ih =>
        intro i im' x2 x3 hi hf hr hp
        have hn10 := hok.1.1
        have loop3 : ∀ (q k : Nat) (b : Int32), k + q = n → ((b = -1 ∧ ∀ l0, l0 < k → plc (im (M + 1)) n i l0) ∨ ∃ bn, bn < k ∧ b = nI bn ∧ ¬ plc (im (M + 1)) n i bn ∧ ∀ l0, l0 < k → ¬ plc (im (M + 1)) n i l0 → l0 = bn ∨ bf (im (M + 1)) bn l0) → V E κ 4 0 0 37 [some (.ref M), some (.int (nI i)), some (.int b), some (.int (nI k))] [] S im' := by
          intro q
          induction q with
          | zero =>
            intro k b hk hb
            have hkn : k = n := by omega
            subst hkn
            rcases hb with ⟨rfl, hall⟩ | ⟨bn, hbn, rfl, hnp, hmin⟩
            · exfalso
              obtain ⟨j, hj, e⟩ := hall _ (ordA_lt (f := im (M + 1)) (show i < k by omega))
              have := ordA_inj (by omega) (show i < k by omega) e
              omega
            · have hbo := plc_best (show i < k by omega) hbn hnp hmin
              refine z_iload_n (pc := 37) C dX7_findOrder_37 rfl ?_
              refine z_aload_n (pc := 38) C dX7_findOrder_38 rfl ?_
              refine gX7_9 (pc := 39) C dX7_findOrder_39 (ml_K hM) (ml_r0 hM) ?_
              refine z_iconstN (pc := 42) C 1 dX7_findOrder_42 ?_
              refine z_iald (pc := 43) C dX7_findOrder_43 (ml_a1 hM) (ml_n1 hM) (by omega) (by decide) ?_
              refine z_eqi (y := nI k) (by rw [hf _ (by omega) (by omega)]; exact hok.1.2) ?_
              refine z_icmp_geT (pc := 44) C 85 dX7_findOrder_44 (by decide) (nI_le (Nat.le_refl _) (by omega)) ?_
              refine z_aload_n (pc := 85) C dX7_findOrder_85 rfl ?_
              refine gX7_26 (pc := 86) C dX7_findOrder_86 (ml_K hM) (ml_r6 hM) ?_
              refine z_iload_n (pc := 89) C dX7_findOrder_89 rfl ?_
              refine z_iconstN (pc := 90) C 1 dX7_findOrder_90 ?_
              refine z_zast (pc := 91) C dX7_findOrder_91 (ml_a5 hM) (ml_n5 hM) (by omega) (by decide) (by decide) ?_
              refine z_aload_n (pc := 92) C dX7_findOrder_92 rfl ?_
              refine gX7_23 (pc := 93) C dX7_findOrder_93 (ml_K hM) (ml_r5 hM) ?_
              refine z_iload_n (pc := 96) C dX7_findOrder_96 rfl ?_
              refine z_iload_n (pc := 97) C dX7_findOrder_97 rfl ?_
              refine z_iast (pc := 98) C dX7_findOrder_98 (ml_a4 hM) (ml_n4 hM) (by omega) (by decide) ?_
              refine z_iincN (pc := 99) C 1 dX7_findOrder_99 rfl (by decide) rfl ?_
              refine z_goto (pc := 102) C 23 dX7_findOrder_102 (by decide) ?_
              refine ih (i + 1) _ _ _ (by omega) (fun a h4 h5 => by rw [up2_n _ _ _ h4, up2_n _ _ _ h5]; exact hf a h4 h5) (fun j hj => ?_) (fun l0 hl0 => ?_)
              · rw [up2_s, up2_n _ _ _ (by omega)]
                by_cases e : j = i
                · subst e; rw [upd_s, hbo]
                · rw [upd_n _ _ e]; exact hr j (by omega)
              · rw [up2_n _ _ _ (by omega), up2_s]
                by_cases e : l0 = bn
                · subst e; rw [upd_s]; exact Or.inr ⟨rfl, plc_succ.mpr (Or.inr hbo)⟩
                · rw [upd_n _ _ e]
                  rcases hp l0 hl0 with ⟨h1, h2⟩ | ⟨h1, h2⟩
                  · refine Or.inl ⟨h1, fun h3 => ?_⟩
                    rcases plc_succ.mp h3 with h3 | h3
                    · exact h2 h3
                    · exact e (h3.trans hbo.symm)
                  · exact Or.inr ⟨h1, plc_succ.mpr (Or.inl h2)⟩
          | succ q ih3 =>
            intro k b hk hb
            rcases hp k (by omega) with ⟨hp0, hp1⟩ | ⟨hp0, hp1⟩
            · rcases hb with ⟨rfl, hall⟩ | ⟨bn, hbn, rfl, hnp, hmin⟩
              ·
                refine z_iload_n (pc := 37) C dX7_findOrder_37 rfl ?_
                refine z_aload_n (pc := 38) C dX7_findOrder_38 rfl ?_
                refine gX7_9 (pc := 39) C dX7_findOrder_39 (ml_K hM) (ml_r0 hM) ?_
                refine z_iconstN (pc := 42) C 1 dX7_findOrder_42 ?_
                refine z_iald (pc := 43) C dX7_findOrder_43 (ml_a1 hM) (ml_n1 hM) (by omega) (by decide) ?_
                refine z_eqi (y := nI n) (by rw [hf _ (by omega) (by omega)]; exact hok.1.2) ?_
                refine z_icmp_geF (pc := 44) C 85 dX7_findOrder_44 (by decide) (nI_ge (by omega) (by omega)) ?_
                refine z_aload_n (pc := 47) C dX7_findOrder_47 rfl ?_
                refine gX7_26 (pc := 48) C dX7_findOrder_48 (ml_K hM) (ml_r6 hM) ?_
                refine z_iload_n (pc := 51) C dX7_findOrder_51 rfl ?_
                refine z_zald (pc := 52) C dX7_findOrder_52 (ml_a5 hM) (ml_n5 hM) (by omega) (by decide) ?_
                refine z_eqi (y := nI 0) (hp0) ?_
                refine z_if_neF (pc := 53) C 79 dX7_findOrder_53 (by decide) (nI_0) ?_
                refine z_iload_n (pc := 56) C dX7_findOrder_56 rfl ?_
                refine z_if_ltT (pc := 57) C 73 dX7_findOrder_57 (by decide) (by decide) ?_
                refine z_iload_n (pc := 73) C dX7_findOrder_73 rfl ?_
                refine z_goto (pc := 74) C 78 dX7_findOrder_74 (by decide) ?_
                refine z_istore_n (pc := 78) C dX7_findOrder_78 (by decide) rfl ?_
                refine z_iincN (pc := 79) C 1 dX7_findOrder_79 rfl (by decide) rfl ?_
                refine z_goto (pc := 82) C 37 dX7_findOrder_82 (by decide) ?_
                exact ih3 (k + 1) _ (by omega) (Or.inr ⟨k, by omega, rfl, hp1, fun l0 hl0 hn0 => by
                  by_cases e : l0 = k
                  · exact Or.inl e
                  · exact absurd (hall l0 (by omega)) hn0⟩)
              ·
                refine z_iload_n (pc := 37) C dX7_findOrder_37 rfl ?_
                refine z_aload_n (pc := 38) C dX7_findOrder_38 rfl ?_
                refine gX7_9 (pc := 39) C dX7_findOrder_39 (ml_K hM) (ml_r0 hM) ?_
                refine z_iconstN (pc := 42) C 1 dX7_findOrder_42 ?_
                refine z_iald (pc := 43) C dX7_findOrder_43 (ml_a1 hM) (ml_n1 hM) (by omega) (by decide) ?_
                refine z_eqi (y := nI n) (by rw [hf _ (by omega) (by omega)]; exact hok.1.2) ?_
                refine z_icmp_geF (pc := 44) C 85 dX7_findOrder_44 (by decide) (nI_ge (by omega) (by omega)) ?_
                refine z_aload_n (pc := 47) C dX7_findOrder_47 rfl ?_
                refine gX7_26 (pc := 48) C dX7_findOrder_48 (ml_K hM) (ml_r6 hM) ?_
                refine z_iload_n (pc := 51) C dX7_findOrder_51 rfl ?_
                refine z_zald (pc := 52) C dX7_findOrder_52 (ml_a5 hM) (ml_n5 hM) (by omega) (by decide) ?_
                refine z_eqi (y := nI 0) (hp0) ?_
                refine z_if_neF (pc := 53) C 79 dX7_findOrder_53 (by decide) (nI_0) ?_
                refine z_iload_n (pc := 56) C dX7_findOrder_56 rfl ?_
                refine z_if_ltF (pc := 57) C 73 dX7_findOrder_57 (by decide) (nI_pos (by omega)) ?_
                refine z_aload_n (pc := 60) C dX7_findOrder_60 rfl ?_
                refine z_iload_n (pc := 61) C dX7_findOrder_61 rfl ?_
                refine kX7_150 (pc := 62) C dX7_findOrder_62 (m7_turnOf κ.2.1 E S im' M hM k (by omega)) (ml_K hM) (by decide) (Nat.le_of_ble_eq_true rfl) (Nat.le_refl _) (Nat.le_refl _) (fun v_62 S_62 im_62 h_62 => ?_)
                obtain ⟨rfl, rfl, rfl⟩ := h_62
                refine z_eqi (y := s_turn (im (M + 1)) k) (by rw [hf _ (by omega) (by omega)]) ?_
                refine z_aload_n (pc := 65) C dX7_findOrder_65 rfl ?_
                refine z_iload_n (pc := 66) C dX7_findOrder_66 rfl ?_
                refine kX7_150 (pc := 67) C dX7_findOrder_67 (m7_turnOf κ.2.1 E S im' M hM bn (by omega)) (ml_K hM) (by decide) (Nat.le_of_ble_eq_true rfl) (Nat.le_refl _) (Nat.le_refl _) (fun v_67 S_67 im_67 h_67 => ?_)
                obtain ⟨rfl, rfl, rfl⟩ := h_67
                refine z_eqi (y := s_turn (im (M + 1)) bn) (by rw [hf _ (by omega) (by omega)]) ?_
                refine z_icmp_ge (pc := 70) C 77 dX7_findOrder_70 (by decide) (fun c_70 => ?_) (fun c_70 => ?_)
                · 
                  refine z_iload_n (pc := 77) C dX7_findOrder_77 rfl ?_
                  refine z_istore_n (pc := 78) C dX7_findOrder_78 (by decide) rfl ?_
                  refine z_iincN (pc := 79) C 1 dX7_findOrder_79 rfl (by decide) rfl ?_
                  refine z_goto (pc := 82) C 37 dX7_findOrder_82 (by decide) ?_
                  first
                  | exact ih3 (k + 1) _ (by omega) (Or.inr ⟨bn, by omega, rfl, hnp, fun l0 hl0 hn0 => by
                      by_cases e : l0 = k
                      · subst e
                        right
                        have hq : s_turn (im (M + 1)) bn ≤ s_turn (im (M + 1)) l0 := c_70
                        simp only [bf, Int32.lt_iff_toInt_lt, Int32.le_iff_toInt_le, ← Int32.toInt_inj] at hq ⊢
                        omega
                      · exact hmin l0 (by omega) hn0⟩)
                  | exact ih3 (k + 1) _ (by omega) (Or.inr ⟨k, by omega, rfl, hp1, fun l0 hl0 hn0 => by
                      by_cases e : l0 = k
                      · exact Or.inl e
                      · right
                        have hq : ¬ s_turn (im (M + 1)) bn ≤ s_turn (im (M + 1)) k := c_70
                        have hq2 := hmin l0 (by omega) hn0
                        rcases hq2 with rfl | hq2
                        · exact Or.inl (Int32.not_le.mp hq)
                        · exact bf_trans (Or.inl (Int32.not_le.mp hq)) hq2⟩)
                · 
                  refine z_iload_n (pc := 73) C dX7_findOrder_73 rfl ?_
                  refine z_goto (pc := 74) C 78 dX7_findOrder_74 (by decide) ?_
                  refine z_istore_n (pc := 78) C dX7_findOrder_78 (by decide) rfl ?_
                  refine z_iincN (pc := 79) C 1 dX7_findOrder_79 rfl (by decide) rfl ?_
                  refine z_goto (pc := 82) C 37 dX7_findOrder_82 (by decide) ?_
                  first
                  | exact ih3 (k + 1) _ (by omega) (Or.inr ⟨bn, by omega, rfl, hnp, fun l0 hl0 hn0 => by
                      by_cases e : l0 = k
                      · subst e
                        right
                        have hq : s_turn (im (M + 1)) bn ≤ s_turn (im (M + 1)) l0 := c_70
                        simp only [bf, Int32.lt_iff_toInt_lt, Int32.le_iff_toInt_le, ← Int32.toInt_inj] at hq ⊢
                        omega
                      · exact hmin l0 (by omega) hn0⟩)
                  | exact ih3 (k + 1) _ (by omega) (Or.inr ⟨k, by omega, rfl, hp1, fun l0 hl0 hn0 => by
                      by_cases e : l0 = k
                      · exact Or.inl e
                      · right
                        have hq : ¬ s_turn (im (M + 1)) bn ≤ s_turn (im (M + 1)) k := c_70
                        have hq2 := hmin l0 (by omega) hn0
                        rcases hq2 with rfl | hq2
                        · exact Or.inl (Int32.not_le.mp hq)
                        · exact bf_trans (Or.inl (Int32.not_le.mp hq)) hq2⟩)
            ·
              refine z_iload_n (pc := 37) C dX7_findOrder_37 rfl ?_
              refine z_aload_n (pc := 38) C dX7_findOrder_38 rfl ?_
              refine gX7_9 (pc := 39) C dX7_findOrder_39 (ml_K hM) (ml_r0 hM) ?_
              refine z_iconstN (pc := 42) C 1 dX7_findOrder_42 ?_
              refine z_iald (pc := 43) C dX7_findOrder_43 (ml_a1 hM) (ml_n1 hM) (by omega) (by decide) ?_
              refine z_eqi (y := nI n) (by rw [hf _ (by omega) (by omega)]; exact hok.1.2) ?_
              refine z_icmp_geF (pc := 44) C 85 dX7_findOrder_44 (by decide) (nI_ge (by omega) (by omega)) ?_
              refine z_aload_n (pc := 47) C dX7_findOrder_47 rfl ?_
              refine gX7_26 (pc := 48) C dX7_findOrder_48 (ml_K hM) (ml_r6 hM) ?_
              refine z_iload_n (pc := 51) C dX7_findOrder_51 rfl ?_
              refine z_zald (pc := 52) C dX7_findOrder_52 (ml_a5 hM) (ml_n5 hM) (by omega) (by decide) ?_
              refine z_eqi (y := nI 1) (hp0) ?_
              refine z_if_neT (pc := 53) C 79 dX7_findOrder_53 (by decide) (by decide) ?_
              refine z_iincN (pc := 79) C 1 dX7_findOrder_79 rfl (by decide) rfl ?_
              refine z_goto (pc := 82) C 37 dX7_findOrder_82 (by decide) ?_
              refine ih3 (k + 1) _ (by omega) ?_
              rcases hb with ⟨rfl, hall⟩ | ⟨bn, hbn, rfl, hnp, hmin⟩
              · exact Or.inl ⟨rfl, fun l0 hl0 => by
                  by_cases e : l0 = k
                  · subst e; exact hp1
                  · exact hall l0 (by omega)⟩
              · exact Or.inr ⟨bn, by omega, rfl, hnp, fun l0 hl0 hn0 => by
                  by_cases e : l0 = k
                  · subst e; exact absurd hp1 hn0
                  · exact hmin l0 (by omega) hn0⟩
        refine z_iload_n (pc := 23) C dX7_findOrder_23 rfl ?_
        refine z_aload_n (pc := 24) C dX7_findOrder_24 rfl ?_
        refine gX7_9 (pc := 25) C dX7_findOrder_25 (ml_K hM) (ml_r0 hM) ?_
        refine z_iconstN (pc := 28) C 1 dX7_findOrder_28 ?_
        refine z_iald (pc := 29) C dX7_findOrder_29 (ml_a1 hM) (ml_n1 hM) (by omega) (by decide) ?_
        refine z_eqi (y := nI n) (by rw [hf _ (by omega) (by omega)]; exact hok.1.2) ?_
        refine z_icmp_geF (pc := 30) C 105 dX7_findOrder_30 (by decide) (nI_ge (by omega) (by omega)) ?_
        refine z_iconst (v := -1) (pc := 33) C dX7_findOrder_33 (by decide) ?_
        refine z_istore_n (pc := 34) C dX7_findOrder_34 (by decide) rfl ?_
        refine z_iconstN (pc := 35) C 0 dX7_findOrder_35 ?_
        refine z_istore_n (pc := 36) C dX7_findOrder_36 (by decide) rfl ?_
        exact loop3 n 0 _ (by omega) (Or.inl ⟨rfl, fun l0 h => absurd h (Nat.not_lt_zero _)⟩)
    refine z_iconstN (pc := 21) C 0 dX7_findOrder_21 ?_
    refine z_istore_n (pc := 22) C dX7_findOrder_22 (by decide) rfl ?_
    exact loop2 n 0 im0 _ _ (by omega) (fun a _ h5 => hf0 a h5) (fun j h => absurd h (Nat.not_lt_zero _)) (fun l0 hl0 => Or.inl ⟨hz0 l0 hl0, fun h => by obtain ⟨j, hj, -⟩ := h; exact absurd hj (Nat.not_lt_zero _)⟩)
  have loop1 : ∀ (r i : Nat) (im' : Mem), i + r = 10 → (∀ a, a ≠ M + 5 → im' a = im a) → (∀ j, j < i → im' (M + 5) j = nI 0) → V E κ 4 0 0 2 [some (.ref M), some (.int (nI i)), none, none] [] S im' := by
    intro r
    induction r with
    | zero =>
      intro i im' hi hf hz
      have hi10 : i = 10 := by omega
      subst hi10
      refine z_iload_n (pc := 2) C dX7_findOrder_2 rfl ?_
      refine z_bipushN (pc := 3) C 10 (by decide) dX7_findOrder_3 ?_
      refine z_icmp_geT (pc := 5) C 21 dX7_findOrder_5 (by decide) (nI_le (Nat.le_refl _) (by decide)) ?_
      exact rest2 im' hf hz _
    | succ r ih =>
      intro i im' hi hf hz
      refine z_iload_n (pc := 2) C dX7_findOrder_2 rfl ?_
      refine z_bipushN (pc := 3) C 10 (by decide) dX7_findOrder_3 ?_
      refine z_icmp_geF (pc := 5) C 21 dX7_findOrder_5 (by decide) (nI_ge (by omega) (by decide)) ?_
      refine z_aload_n (pc := 8) C dX7_findOrder_8 rfl ?_
      refine gX7_26 (pc := 9) C dX7_findOrder_9 (ml_K hM) (ml_r6 hM) ?_
      refine z_iload_n (pc := 12) C dX7_findOrder_12 rfl ?_
      refine z_iconstN (pc := 13) C 0 dX7_findOrder_13 ?_
      refine z_zast (pc := 14) C dX7_findOrder_14 (ml_a5 hM) (ml_n5 hM) (by omega) (by decide) (by decide) ?_
      refine z_iincN (pc := 15) C 1 dX7_findOrder_15 rfl (by decide) rfl ?_
      refine z_goto (pc := 18) C 2 dX7_findOrder_18 (by decide) ?_
      refine ih (i + 1) _ (by omega) (fun a ha => by rw [up2_n _ _ _ ha]; exact hf a ha) (fun j hj => ?_)
      rw [up2_s]
      by_cases e : j = i
      · subst e; rw [upd_s]
      · rw [upd_n _ _ e]; exact hz j (by omega)
  refine z_iconstN (pc := 0) C 0 dX7_findOrder_0 ?_
  refine z_istore_n (pc := 1) C dX7_findOrder_1 (by decide) rfl ?_
  exact loop1 10 0 im (by omega) (fun _ _ => rfl) (fun j h => absurd h (Nat.not_lt_zero _))
