/-! the reference's stack of signs does what the descent does: levels -/
theorem bF {x : Bool} (h : ¬ x = true) : x = false := by
  cases x with
  | true => exact absurd rfl h
  | false => rfl
theorem bop_mono {l m : Nat} {x : Int32} (h : bop l x) (hm : m ≤ l) : bop m x := ⟨h.1, h.2.1, Nat.le_trans hm h.2.2⟩
theorem ql_rows {a : Nat → Int32} {T : Nat} {key : Int32} {Hd : RS → List Int32 → Nat → Nat → (Nat → Bool) → Bool → Prop} {Fk : Nat → Prop} (hT : T ≤ 96) (h6 : R6 a T Hd) {d l pr b : Nat} (hl4 : l ≤ 4) {W : List Int32} {ts : Nat → Bool} (hW : tight (l + 1) W) (hb : b = nb W)
    (nx : ∀ (σ : RS) (W : List Int32) (ts : Nat → Bool), σ.1 ≤ T → tight (l + 2) W → b = nb W → (l + 1 ≤ 2 → ts pr = false) → ((rd a T key d (l + 1) pr b σ).1 = true → aft a T Hd (l + 1) pr b (rd a T key d (l + 1) pr b σ).2 W ts → Hd σ W pr b ts true) ∧ ((rd a T key d (l + 1) pr b σ).1 = false → Fk (tS a T (rd a T key d (l + 1) pr b σ).2.1) → Hd σ W pr b ts true)) :
    ∀ (i : Nat) (σ : RS) (cs1 pe : List Int32) (ts1 : Nat → Bool), σ.1 ≤ T → (¬ l = 2 → 97 ≤ σ.1 + i) → (l = 2 → (i = 1 ∧ ts1 pr = false) ∨ (i = 0 ∧ ts1 pr = true)) → cs1 ++ pe = σ.2.2.1 → (∀ x, x ∈ pe → bop (l + 1) x) → rdE a T (l + 1) σ ts1 pr → (∀ i, i < pr → ts1 i = ts i) → (3 ≤ l → ts1 pr = ts pr) →
      ((r_rows (rd a T key d (l + 1) pr b) a T l i σ).1 = true → aft a T Hd l pr b (r_rows (rd a T key d (l + 1) pr b) a T l i σ).2 W ts → Hd (r_cs σ cs1) (pe ++ W) pr b ts1 false) ∧
      ((r_rows (rd a T key d (l + 1) pr b) a T l i σ).1 = false → Fk (tS a T (r_rows (rd a T key d (l + 1) pr b) a T l i σ).2.1) → Hd (r_cs σ cs1) (pe ++ W) pr b ts1 false) := by
  intro i
  induction i with
  | zero =>
    intro σ cs1 pe ts1 hp h97 h2 hcs hpe hE hts h3
    refine ⟨fun _ hA => hA cs1 pe ts1 hcs hpe hts h3 (fun l' q1 q2 => ?_), fun q => absurd q.symm Bool.false_ne_true⟩
    by_cases e : l' = l
    · by_cases e2 : l = 2
      · rcases h2 e2 with q | q
        · exact absurd q.1 (by omega)
        · exact Or.inr ⟨by omega, q.2⟩
      · have := h97 e2; omega
    · exact hE l' (by omega) q2
  | succ i ih =>
    intro σ cs1 pe ts1 hp h97 h2 hcs hpe hE hts h3
    rw [r_rows]
    by_cases e : r_wk a T l σ = 0
    · rw [if_pos e]
      refine ⟨fun _ hA => hA cs1 pe ts1 hcs hpe hts h3 (fun l' q1 q2 => ?_), fun q => absurd q.symm Bool.false_ne_true⟩
      by_cases e1 : l' = l
      · rw [e1]; exact Or.inl e
      · exact hE l' (by omega) q2
    · rw [if_neg e]
      obtain ⟨s0, srk, swk⟩ := r_wk_s e
      obtain ⟨o1, o2, o3, o4, o5⟩ := r_sg_op s0
      rw [swk]
      have hn := r_nx_pos hp (tK3 (r_sg_s s0))
      have h2i : l = 2 → i = 0 ∧ ts1 pr = false := fun q => by
        rcases h2 q with h | h
        · exact ⟨by omega, h.2⟩
        · exact absurd h.1 (by omega)
      have hgo : Hd (r_nx a T σ) (r_sg a T σ :: W) pr b (tsu ts1 pr (decide (l + 1 = 3 ∨ (3 < l + 1 ∧ ts1 pr = true)))) true → Hd (r_cs σ cs1) (pe ++ W) pr b ts1 false := by
        intro h
        refine h6 (r_cs σ cs1) (pe ++ W) pr b ts1 hp (fun q => o5 q.1) s0 (fun q => ?_) ?_
        · have e3 : rk (r_sg a T σ) = 3 := q.1
          have := (h2i (by omega)).2
          rw [q.2] at this
          exact absurd this.symm Bool.false_ne_true
        · have es : r_sg a T (r_cs σ cs1) = r_sg a T σ := rfl
          rw [es, srk, stl_app (Nat.le_refl _) pe hpe, show stl (l + 1) W = ([], W) from hW]
          rw [show r_ap (r_nx a T (r_cs σ cs1)) (pe ++ ([], W).1) = r_nx a T σ from by simp only [r_ap, r_nx, r_cs, List.append_nil, hcs]]
          exact h
      have hx := nx (r_nx a T σ) (r_sg a T σ :: W) (tsu ts1 pr (decide (l + 1 = 3 ∨ (3 < l + 1 ∧ ts1 pr = true)))) hn.2 (by unfold tight; rw [stl, if_neg o2, if_pos (by omega)]) (by rw [nb, if_neg o1]; exact hb) (fun q => by
        unfold tsu
        rw [if_pos rfl]
        exact decide_eq_false (fun h => by rcases h with h | h <;> omega))
      have hpos := rd_pos a T key d (l + 1) pr b (r_nx a T σ) hn.2
      by_cases e3 : (rd a T key d (l + 1) pr b (r_nx a T σ)).1 = true
      · rw [if_pos e3]
        have hpos3 := hpos.2.2 e3
        have key1 : ∀ cs3 pe3 ts3, cs3 ++ pe3 = (rd a T key d (l + 1) pr b (r_nx a T σ)).2.2.2.1 → (∀ x, x ∈ pe3 → bop (l + 1 + 1) x) → (∀ i, i < pr → ts3 i = (tsu ts1 pr (decide (l + 1 = 3 ∨ (3 < l + 1 ∧ ts1 pr = true)))) i) → (3 ≤ l + 1 → ts3 pr = (tsu ts1 pr (decide (l + 1 = 3 ∨ (3 < l + 1 ∧ ts1 pr = true)))) pr) → rdE a T (l + 1) (rd a T key d (l + 1) pr b (r_nx a T σ)).2 ts3 pr → _ :=
          fun cs3 pe3 ts3 hcs3 hpe3 hts3 h33 hE3 => ih (r_ap (rd a T key d (l + 1) pr b (r_nx a T σ)).2 [r_sg a T σ]) cs3 (pe3 ++ [r_sg a T σ]) ts3 hpos.2.1 (fun q => by have := h97 q; have h4 : (r_ap (rd a T key d (l + 1) pr b (r_nx a T σ)).2 [r_sg a T σ]).1 = (rd a T key d (l + 1) pr b (r_nx a T σ)).2.1 := rfl; omega)
            (fun q => Or.inr ⟨(h2i q).1, by rw [h33 (by omega)]; unfold tsu; rw [if_pos rfl]; exact decide_eq_true (Or.inl (by omega))⟩)
            (by rw [← List.append_assoc, hcs3]; rfl)
            (fun x hx => by
              rcases List.mem_append.mp hx with q | q
              · exact bop_mono (hpe3 x q) (by omega)
              · rw [List.mem_singleton] at q
                rw [q]
                exact ⟨o2, o1, by omega⟩)
            hE3
            (fun k hk => by rw [hts3 k hk]; unfold tsu; rw [if_neg (by omega)]; exact hts k hk)
            (fun q => by
              rw [h33 (by omega), ← h3 q]
              unfold tsu
              rw [if_pos rfl]
              cases hq : ts1 pr with
              | true => exact decide_eq_true (Or.inr ⟨by omega, rfl⟩)
              | false => exact decide_eq_false (fun h => by rcases h with h | h; omega; exact Bool.false_ne_true h.2))
        refine ⟨fun hr hA => hgo (hx.1 e3 (fun cs3 pe3 ts3 g1 g2 g3 g4 g5 => ?_)), fun hr hk => hgo (hx.1 e3 (fun cs3 pe3 ts3 g1 g2 g3 g4 g5 => ?_))⟩
        · have := (key1 cs3 pe3 ts3 g1 g2 g3 g4 g5).1 hr hA
          rw [List.append_assoc] at this
          exact this
        · have := (key1 cs3 pe3 ts3 g1 g2 g3 g4 g5).2 hr hk
          rw [List.append_assoc] at this
          exact this
      · rw [if_neg e3]
        exact ⟨fun q => absurd q Bool.false_ne_true, fun _ hk => hgo (hx.2 (bF e3) hk)⟩
theorem ql_step {a : Nat → Int32} {T : Nat} {key : Int32} {Hd : RS → List Int32 → Nat → Nat → (Nat → Bool) → Bool → Prop} {Fk : Nat → Prop} (hT : T ≤ 96) (h6 : R6 a T Hd) {d l : Nat} (hl4 : l ≤ 4) (ih : l = 4 → Q5 a T key Hd Fk d) (ihl : l < 4 → QL a T key Hd Fk d (l + 1)) : QL a T key Hd Fk (d + 1) l := by
  intro pr b σ W ts hd hp hW hb hts
  have nx : ∀ (σ : RS) (W : List Int32) (ts : Nat → Bool), σ.1 ≤ T → tight (l + 2) W → b = nb W → (l + 1 ≤ 2 → ts pr = false) → ((rd a T key d (l + 1) pr b σ).1 = true → aft a T Hd (l + 1) pr b (rd a T key d (l + 1) pr b σ).2 W ts → Hd σ W pr b ts true) ∧ ((rd a T key d (l + 1) pr b σ).1 = false → Fk (tS a T (rd a T key d (l + 1) pr b σ).2.1) → Hd σ W pr b ts true) := by
    intro σ W ts q1 q2 q3 q4
    by_cases e : l = 4
    · subst e
      have h := ih rfl pr b σ 0 W ts (by omega) q1 q2 q3
      refine ⟨fun g1 g2 => h.1 g1 (fun ts' hts' => ?_), h.2⟩
      have := g2 (rd a T key d (4 + 1) pr b σ).2.2.2.1 [] ts' (List.append_nil _) (fun x hx => absurd hx (by simp)) (fun i hi => hts' i (by omega)) (fun _ => hts' pr (Nat.le_refl _)) (fun l' r1 r2 => absurd r1 (by omega))
      rw [← q3]
      rw [show r_ap (rd a T key d 5 pr b σ).2 (List.replicate 0 (-10)) = r_cs (rd a T key d (4 + 1) pr b σ).2 (rd a T key d (4 + 1) pr b σ).2.2.2.1 from by simp only [r_ap, r_cs, List.replicate_zero, List.append_nil]]
      exact this
    · exact ihl (by omega) pr b σ W ts (by omega) q1 q2 q3 q4
  have h1 := nx σ W ts hp (tight_mono hW (by omega)) hb (fun q => hts (by omega))
  have hpos := rd_pos a T key d (l + 1) pr b σ hp
  rw [rd, if_neg (by omega)]
  by_cases e3 : (rd a T key d (l + 1) pr b σ).1 = true
  · rw [if_pos e3]
    have hpos3 := hpos.2.2 e3
    have key1 : ∀ cs3 pe3 ts3, cs3 ++ pe3 = (rd a T key d (l + 1) pr b σ).2.2.2.1 → (∀ x, x ∈ pe3 → bop (l + 1 + 1) x) → (∀ i, i < pr → ts3 i = ts i) → (3 ≤ l + 1 → ts3 pr = ts pr) → rdE a T (l + 1) (rd a T key d (l + 1) pr b σ).2 ts3 pr → _ :=
      fun cs3 pe3 ts3 g1 g2 g3 g4 g5 => ql_rows hT h6 hl4 hW hb nx (if l = 2 then 1 else 96) (rd a T key d (l + 1) pr b σ).2 cs3 pe3 ts3 hpos.2.1 (fun q => by rw [if_neg q]; omega) (fun q => Or.inl ⟨if_pos q, by rw [g4 (by omega)]; exact hts (by omega)⟩) g1 (fun x hx => bop_mono (g2 x hx) (by omega)) g5 g3 (fun q => g4 (by omega))
    refine ⟨fun hr hA => h1.1 e3 (fun cs3 pe3 ts3 g1 g2 g3 g4 g5 => ?_), fun hr hk => h1.1 e3 (fun cs3 pe3 ts3 g1 g2 g3 g4 g5 => ?_)⟩
    · exact (key1 cs3 pe3 ts3 g1 g2 g3 g4 g5).1 hr hA
    · exact (key1 cs3 pe3 ts3 g1 g2 g3 g4 g5).2 hr hk
  · rw [if_neg e3]
    exact ⟨fun q => absurd q Bool.false_ne_true, fun _ hk => h1.2 (bF e3) hk⟩
theorem sim {a : Nat → Int32} {T : Nat} {key : Int32} {Hd : RS → List Int32 → Nat → Nat → (Nat → Bool) → Bool → Prop} {Fk : Nat → Prop} {Sk : RS → Prop} (hT : T ≤ 96) (h1 : R1 a T Hd) (h2 : R2 a T Hd) (h3 : R3 a T key Hd) (h4 : R4 a T key Hd Fk) (h5 : R5 a T Hd) (h6 : R6 a T Hd) (h7 : R7 a T Hd Fk) (h8 : R8 a T Hd Fk Sk) : ∀ d, Q5 a T key Hd Fk d ∧ ∀ l, l ≤ 4 → QL a T key Hd Fk d l := by
  intro d
  induction d with
  | zero => exact ⟨fun pr b σ j W ts hd => absurd hd (by omega), fun l hl pr b σ W ts hd => absurd hd (by omega)⟩
  | succ d ih => exact ⟨q5_step h1 h2 h3 h4 h5 h7 h8 ih.1 (ih.2 0 (by omega)), fun l hl => ql_step hT h6 hl (fun _ => ih.1) (fun h => ih.2 (l + 1) (by omega))⟩
/-- the whole: what a text is -/
theorem sim_all {a : Nat → Int32} {T : Nat} {key : Int32} {Hd : RS → List Int32 → Nat → Nat → (Nat → Bool) → Bool → Prop} {Fk : Nat → Prop} {Sk : RS → Prop} (hT : T ≤ 96) (h1 : R1 a T Hd) (h2 : R2 a T Hd) (h3 : R3 a T key Hd) (h4 : R4 a T key Hd Fk) (h5 : R5 a T Hd) (h6 : R6 a T Hd) (h7 : R7 a T Hd Fk) (h8 : R8 a T Hd Fk Sk) (σ : RS) (hp : σ.1 ≤ T) (ts : Nat → Bool) (hts : ts 0 = false)
    (hS : (rd a T key 70 0 0 0 σ).1 = true → tK a T (rd a T key 70 0 0 0 σ).2.1 (rd a T key 70 0 0 0 σ).2.2.1 = 0 → Sk (rd a T key 70 0 0 0 σ).2)
    (hF : ¬ ((rd a T key 70 0 0 0 σ).1 = true ∧ tK a T (rd a T key 70 0 0 0 σ).2.1 (rd a T key 70 0 0 0 σ).2.2.1 = 0) → Fk (tS a T (rd a T key 70 0 0 0 σ).2.1)) : Hd σ [] 0 0 ts true := by
  have h := (sim hT h1 h2 h3 h4 h5 h6 h7 h8 70).2 0 (by omega) 0 0 σ [] ts (by decide) hp rfl rfl (fun _ => hts)
  have hpos := rd_pos a T key 70 0 0 0 σ hp
  by_cases e : (rd a T key 70 0 0 0 σ).1 = true
  · refine h.1 e (fun cs1 pe ts' hcs hpe _ _ hE => ?_)
    by_cases e0 : tK a T (rd a T key 70 0 0 0 σ).2.1 (rd a T key 70 0 0 0 σ).2.2.1 = 0
    · refine h8 _ _ 0 0 ts' hpos.2.1 e0 (fun _ => ?_) (fun q => absurd q (by omega))
      rw [stl_app (l := 1) (by omega) pe hpe]
      have := hS e e0
      rw [show r_ap (r_cs (rd a T key 70 0 0 0 σ).2 cs1) (pe ++ (stl 0 ([] : List Int32)).1, (stl 0 ([] : List Int32)).2).1 = (rd a T key 70 0 0 0 σ).2 from by simp only [r_ap, r_cs, stl, List.append_nil, hcs]]
      exact this
    · exact h7 _ _ 0 0 ts' hpos.2.1 e0 (fun q => absurd q.2 (by omega)) (aft_no hE) (hF (fun q => e0 q.2))
  · exact h.2 (bF e) (hF (fun q => e q.1))
