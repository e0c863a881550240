/-! the reference's stack of signs does what the descent does -/
section SIM
variable (a : Nat → Int32) (T : Nat) (key : Int32) (Hd : RS → List Int32 → Nat → Nat → (Nat → Bool) → Bool → Prop) (Fk : Nat → Prop) (Sk : RS → Prop)
def R1 : Prop := ∀ (σ : RS) W pr nt ts, σ.1 ≤ T → r_ch a T σ 33 = true → nt < 8 → Hd (r_nx a T σ) (-10 :: W) pr (nb (-10 :: W)) ts true → Hd σ W pr nt ts true
def R2 : Prop := ∀ (σ : RS) W pr nt ts, σ.1 ≤ T → r_ch a T σ 40 = true → pr < 8 → Hd (r_nx a T σ) (-11 :: W) (pr + 1) (nb (-11 :: W)) (tsu ts (pr + 1) false) true → Hd σ W pr nt ts true
def R3 : Prop := ∀ (σ : RS) W pr nt ts, σ.1 ≤ T → isPb a T σ.1 σ.2.1 key = true → Hd (r_ap (r_pt a T key σ) (stl 6 W).1) (stl 6 W).2 pr (nb (stl 6 W).2) ts false → Hd σ W pr nt ts true
def R4 : Prop := ∀ (σ : RS) W pr nt ts, σ.1 ≤ T → ¬ (r_ch a T σ 33 = true ∧ nt < 8) → ¬ (r_ch a T σ 40 = true ∧ pr < 8) → ¬ isPb a T σ.1 σ.2.1 key = true → Fk (tS a T σ.1) → Hd σ W pr nt ts true
def R5 : Prop := ∀ (σ : RS) W W1 pr nt ts, σ.1 ≤ T → r_ch a T σ 41 = true → 0 < pr → (stl 0 W).2 = -11 :: W1 → Hd (r_ap (r_nx a T σ) ((stl 0 W).1 ++ (stl 6 W1).1)) (stl 6 W1).2 (pr - 1) (nb (stl 6 W1).2) ts false → Hd σ W pr nt ts false
def R6 : Prop := ∀ (σ : RS) W pr nt ts, σ.1 ≤ T → ¬ (r_ch a T σ 41 = true ∧ 0 < pr) → ¬ r_sg a T σ = 0 → ¬ (rk (r_sg a T σ) = 3 ∧ ts pr = true) → Hd (r_ap (r_nx a T σ) (stl (rk (r_sg a T σ)) W).1) (r_sg a T σ :: (stl (rk (r_sg a T σ)) W).2) pr nt (tsu ts pr (decide (rk (r_sg a T σ) = 3 ∨ (3 < rk (r_sg a T σ) ∧ ts pr = true)))) true → Hd σ W pr nt ts false
def R7 : Prop := ∀ (σ : RS) W pr nt ts, σ.1 ≤ T → ¬ tK a T σ.1 σ.2.1 = 0 → ¬ (r_ch a T σ 41 = true ∧ 0 < pr) → (r_sg a T σ = 0 ∨ (rk (r_sg a T σ) = 3 ∧ ts pr = true)) → Fk (tS a T σ.1) → Hd σ W pr nt ts false
def R8 : Prop := ∀ (σ : RS) W pr nt ts, σ.1 ≤ T → tK a T σ.1 σ.2.1 = 0 → (pr = 0 → Sk (r_ap σ (stl 0 W).1)) → (0 < pr → Fk (tS a T σ.1)) → Hd σ W pr nt ts false
/-- a piece -/
def Q5 (d : Nat) : Prop := ∀ (pr b : Nat) (σ : RS) (j : Nat) (W : List Int32) (ts : Nat → Bool), 7 * (8 - pr) + (8 - b) + 1 ≤ d → σ.1 ≤ T → tight 6 W → b = nb (List.replicate j (-10) ++ W) →
  ((rd a T key d 5 pr b σ).1 = true → (∀ ts', (∀ i, i ≤ pr → ts' i = ts i) → Hd (r_ap (rd a T key d 5 pr b σ).2 (List.replicate j (-10))) W pr (nb W) ts' false) → Hd σ (List.replicate j (-10) ++ W) pr b ts true) ∧
  ((rd a T key d 5 pr b σ).1 = false → Fk (tS a T (rd a T key d 5 pr b σ).2.1) → Hd σ (List.replicate j (-10) ++ W) pr b ts true)
/-- what is behind a level -/
def aft (l pr b : Nat) (σ : RS) (W : List Int32) (ts : Nat → Bool) : Prop := ∀ cs1 pe ts', cs1 ++ pe = σ.2.2.1 → (∀ x, x ∈ pe → bop (l + 1) x) → (∀ i, i < pr → ts' i = ts i) → (3 ≤ l → ts' pr = ts pr) → rdE a T l σ ts' pr → Hd (r_cs σ cs1) (pe ++ W) pr b ts' false
def QL (d l : Nat) : Prop := ∀ (pr b : Nat) (σ : RS) (W : List Int32) (ts : Nat → Bool), 7 * (8 - pr) + (8 - b) + (6 - l) ≤ d → σ.1 ≤ T → tight (l + 1) W → b = nb W → (l ≤ 2 → ts pr = false) →
  ((rd a T key d l pr b σ).1 = true → aft a T Hd l pr b (rd a T key d l pr b σ).2 W ts → Hd σ W pr b ts true) ∧
  ((rd a T key d l pr b σ).1 = false → Fk (tS a T (rd a T key d l pr b σ).2.1) → Hd σ W pr b ts true)
end SIM
theorem sg_op {x : Int32} (h : ¬ s_sign x = 0) : ¬ s_sign x = -10 ∧ ¬ s_sign x = -11 ∧ 1 ≤ rk (s_sign x) ∧ rk (s_sign x) ≤ 5 ∧ ¬ x = nI 41 := by
  unfold s_sign at h ⊢
  by_cases e1 : x = nI 38
  · subst e1; decide
  rw [if_neg e1] at h ⊢
  by_cases e2 : x = nI 42
  · subst e2; decide
  rw [if_neg e2] at h ⊢
  by_cases e3 : x = nI 43
  · subst e3; decide
  rw [if_neg e3] at h ⊢
  by_cases e4 : x = nI 45
  · subst e4; decide
  rw [if_neg e4] at h ⊢
  by_cases e5 : x = nI 47
  · subst e5; decide
  rw [if_neg e5] at h ⊢
  by_cases e6 : x = nI 60
  · subst e6; decide
  rw [if_neg e6] at h ⊢
  by_cases e7 : x = nI 61
  · subst e7; decide
  rw [if_neg e7] at h ⊢
  by_cases e8 : x = nI 62
  · subst e8; decide
  rw [if_neg e8] at h ⊢
  by_cases e9 : x = nI 124
  · subst e9; decide
  rw [if_neg e9] at h
  exact absurd rfl h
theorem r_sg_op {a : Nat → Int32} {T : Nat} {σ : RS} (h : ¬ r_sg a T σ = 0) : ¬ r_sg a T σ = -10 ∧ ¬ r_sg a T σ = -11 ∧ 1 ≤ rk (r_sg a T σ) ∧ rk (r_sg a T σ) ≤ 5 ∧ ¬ r_ch a T σ 41 = true := by
  have h3 := r_sg_s h
  have e : r_sg a T σ = s_sign (tV a T σ.1) := by rw [r_sg, if_pos h3]
  rw [e] at h ⊢
  obtain ⟨q1, q2, q3, q4, q5⟩ := sg_op h
  exact ⟨q1, q2, q3, q4, fun hc => q5 (decide_eq_true_iff.mp hc).2⟩
/-- a level is read: neither its closing nor a sign can follow -/
theorem aft_no {a : Nat → Int32} {T pr : Nat} {σ : RS} {ts : Nat → Bool} (h : rdE a T 0 σ ts pr) : r_sg a T σ = 0 ∨ (rk (r_sg a T σ) = 3 ∧ ts pr = true) := by
  by_cases e : r_sg a T σ = 0
  · exact Or.inl e
  · obtain ⟨-, -, q1, q2, -⟩ := r_sg_op e
    have hw : r_wk a T (rk (r_sg a T σ) - 1) σ = r_sg a T σ := by rw [r_wk, if_pos (by omega)]
    rcases h (rk (r_sg a T σ) - 1) (Nat.zero_le _) (by omega) with h1 | h1
    · rw [hw] at h1; exact absurd h1 e
    · exact Or.inr ⟨by omega, h1.2⟩
theorem q5_step {a : Nat → Int32} {T : Nat} {key : Int32} {Hd : RS → List Int32 → Nat → Nat → (Nat → Bool) → Bool → Prop} {Fk : Nat → Prop} {Sk : RS → Prop} (h1 : R1 a T Hd) (h2 : R2 a T Hd) (h3 : R3 a T key Hd) (h4 : R4 a T key Hd Fk) (h5 : R5 a T Hd) (h7 : R7 a T Hd Fk) (h8 : R8 a T Hd Fk Sk) {d : Nat} (ih5 : Q5 a T key Hd Fk d) (ih0 : QL a T key Hd Fk d 0) : Q5 a T key Hd Fk (d + 1) := by
  intro pr b σ j W ts hd hp hW hb
  rw [rd, if_pos rfl]
  by_cases e1 : isPb a T σ.1 σ.2.1 key = true
  · rw [if_pos e1]
    refine ⟨fun _ hF => h3 σ _ pr b ts hp e1 ?_, fun q => absurd q.symm Bool.false_ne_true⟩
    rw [stl_rep hW j]
    exact hF ts (fun _ _ => rfl)
  · rw [if_neg e1]
    by_cases e2 : r_ch a T σ 33 = true ∧ b < 8
    · rw [if_pos e2]
      have hn := r_nx_pos hp (r_ch_s e2.1)
      have ih := ih5 pr (b + 1) (r_nx a T σ) (j + 1) W ts (by omega) hn.2 hW (by rw [List.replicate_succ, List.cons_append, nb, ← hb, if_pos rfl])
      have hr1 : Hd (r_nx a T σ) (List.replicate (j + 1) (-10) ++ W) pr (b + 1) ts true → Hd σ (List.replicate j (-10) ++ W) pr b ts true := fun h => h1 σ _ pr b ts hp e2.1 e2.2 (by
        rw [nb, ← hb, if_pos rfl]
        exact h)
      by_cases e3 : (rd a T key d 5 pr (b + 1) (r_nx a T σ)).1 = true
      · rw [if_pos e3]
        refine ⟨fun _ hF => hr1 (ih.1 e3 (fun ts' hts => ?_)), fun q => absurd q.symm Bool.false_ne_true⟩
        have := hF ts' hts
        rw [show r_ap (r_ap (rd a T key d 5 pr (b + 1) (r_nx a T σ)).2 [-10]) (List.replicate j (-10)) = r_ap (rd a T key d 5 pr (b + 1) (r_nx a T σ)).2 (List.replicate (j + 1) (-10)) from by simp only [r_ap, List.append_assoc]; rfl] at this
        exact this
      · rw [if_neg e3]
        have e3' : (rd a T key d 5 pr (b + 1) (r_nx a T σ)).1 = false := by
          cases hq : (rd a T key d 5 pr (b + 1) (r_nx a T σ)).1 with
          | true => exact absurd hq e3
          | false => rfl
        exact ⟨fun q => absurd q Bool.false_ne_true, fun _ hk => hr1 (ih.2 e3' hk)⟩
    · rw [if_neg e2]
      by_cases e4 : r_ch a T σ 40 = true ∧ pr < 8
      · rw [if_pos e4]
        have hn := r_nx_pos hp (r_ch_s e4.1)
        have hb' : b = nb (-11 :: (List.replicate j (-10) ++ W)) := by rw [nb, if_neg (by decide)]; exact hb
        have ih := ih0 (pr + 1) b (r_nx a T σ) (-11 :: (List.replicate j (-10) ++ W)) (tsu ts (pr + 1) false) (by omega) hn.2 (by unfold tight; rw [stl, if_pos rfl]) hb' (fun _ => by unfold tsu; rw [if_pos rfl])
        have hr2 : Hd (r_nx a T σ) (-11 :: (List.replicate j (-10) ++ W)) (pr + 1) b (tsu ts (pr + 1) false) true → Hd σ (List.replicate j (-10) ++ W) pr b ts true := fun h => h2 σ _ pr b ts hp e4.1 e4.2 (by rw [← hb']; exact h)
        have hpos := rd_pos a T key d 0 (pr + 1) b (r_nx a T σ) hn.2
        generalize hr : rd a T key d 0 (pr + 1) b (r_nx a T σ) = rr at ih hpos
        obtain ⟨ok, σ1⟩ := rr
        by_cases e5 : ok = true
        · subst e5
          by_cases e6 : r_ch a T σ1 41 = true
          · rw [if_pos ⟨rfl, e6⟩]
            refine ⟨fun _ hF => hr2 (ih.1 rfl (fun cs1 pe ts' hcs hpe hts _ _ => ?_)), fun q => absurd q.symm Bool.false_ne_true⟩
            have hst : stl 0 (pe ++ -11 :: (List.replicate j (-10) ++ W)) = (pe, -11 :: (List.replicate j (-10) ++ W)) := by
              rw [stl_app (l := 1) (by omega) pe hpe, stl, if_pos rfl]
              simp
            refine h5 (r_cs σ1 cs1) _ (List.replicate j (-10) ++ W) (pr + 1) b ts' hpos.2.1 e6 (by omega) (by rw [hst]) ?_
            rw [hst, stl_rep hW j]
            have := hF ts' (fun i hi => by rw [hts i (by omega)]; unfold tsu; rw [if_neg (by omega)])
            rw [show r_ap (r_nx a T (r_cs σ1 cs1)) (pe ++ List.replicate j (-10)) = r_ap (r_nx a T σ1) (List.replicate j (-10)) from by simp only [r_ap, r_nx, r_cs, ← List.append_assoc, hcs]]
            exact this
          · rw [if_neg (fun h => e6 h.2)]
            refine ⟨fun q => absurd q Bool.false_ne_true, fun _ hk => hr2 (ih.1 rfl (fun cs1 pe ts' hcs hpe hts _ hE => ?_))⟩
            by_cases e7 : tK a T σ1.1 σ1.2.1 = 0
            · exact h8 (r_cs σ1 cs1) _ (pr + 1) b ts' hpos.2.1 e7 (fun q => absurd q (by omega)) (fun _ => hk)
            · exact h7 (r_cs σ1 cs1) _ (pr + 1) b ts' hpos.2.1 e7 (fun h => e6 h.1) (aft_no hE) hk
        · rw [if_neg (fun h => e5 h.1)]
          have e5' : ok = false := by
            cases ok with
            | true => exact absurd rfl e5
            | false => rfl
          subst e5'
          exact ⟨fun q => absurd q Bool.false_ne_true, fun _ hk => hr2 (ih.2 rfl hk)⟩
      · rw [if_neg e4]
        exact ⟨fun q => absurd q Bool.false_ne_true, fun _ hk => h4 σ _ pr b ts hp e2 e4 e1 hk⟩
