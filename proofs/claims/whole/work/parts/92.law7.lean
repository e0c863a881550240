/-! the law: the two objects are made -/
theorem INV_new {S S2 : Sx} {im im2 : Mem} {B : Nat} (hC : CL S2 B) (hM : ML S (B + 81)) (hS : S.1 = B + 81 + 26) (e : ∀ a, a < B + 81 → sE S2 S a) (ei : ∀ a, a < B + 81 → im a = im2 a) (i0 : im2 B = fun _ => 0) (si : SI im2 (B + 1)) (t1 : im2 (B + 46) 1 = 0) (t2 : im2 (B + 47) = fun _ => 0) (t3 : im2 (B + 51) = fun _ => 0) (sh : ∀ i, i < 4 → im2 (B + 53 + 2 * i) 0 = -1 ∧ im2 (B + 53 + 2 * i) 1 = 0 ∧ im2 (B + 53 + 2 * i + 1) = fun _ => 0) (sl : ∀ i, i < 5 → im2 (B + 61 + 4 * i) 0 = 0) (m3 : im (B + 81) 3 = 0) (m4 : im (B + 81) 4 = -1) (m11 : im (B + 81) 11 = 0) (m37 : im (B + 81) 37 = 0) (hf : im (B + 81 + 1) = upd (upd (fun _ => 0) 0 (nI 1)) 5 (nI 600)) (hk : KyOk (B + 81) im) (h17 : ∀ s, s < 4 → im (B + 81 + 17) s = -1) (h18 : im (B + 81 + 18) = fun _ => 0) (h19 : im (B + 81 + 19) = fun _ => 0) (h20 : im (B + 81 + 20) = fun _ => 0) (h9 : im (B + 81 + 9) = fun _ => 0) (h25 : im (B + 81 + 25) = fun _ => 0) : INV S im B := by
  have eB : im B = fun _ => 0 := (ei B (by omega)).trans i0
  have eq : im (B + 1) = im2 (B + 1) := ei _ (by omega)
  obtain ⟨s1, s3, s4, s5, s6, s7, s8, s10, sc⟩ := si
  refine ⟨⟨CL_a hC (fun a _ h => ⟨(e a (by omega)).1, (e a (by omega)).2.1⟩) (fun a _ h _ => (e a (by omega)).2.2), hM, 0, by omega⟩, ⟨⟨0, 0, ?_⟩, ?_⟩, ⟨by rw [eB, m3], fun h => absurd m3 h⟩, ⟨m4, hk⟩, ⟨⟨0, by decide, by rw [m11]; rfl, by rw [ei _ (by omega), t1]; rfl⟩, by rw [ei _ (by omega), t2, h9]⟩, ?_, ?_, ⟨⟨0, by decide, by rw [m37]; rfl, by rw [eB]; rfl⟩, by rw [ei _ (by omega), t3, h25]⟩⟩
  · rw [hf]
    refine ⟨⟨⟨by decide, by decide, by rw [eq, s1]; rfl⟩, ⟨by rw [eq, s8]; decide, by rw [eq, s7]; decide, by rw [eq, s3]; decide, by rw [eq, s4]; decide, by rw [eq, s5]; decide, by rw [eq, s6]; decide, by rw [eq, s10]; decide⟩, fun l hl => absurd hl (Nat.not_lt_zero _)⟩, ⟨⟨by decide, by rw [eq, s10]; rfl, by decide⟩, fun t ht => absurd ht (Nat.not_lt_zero _), fun k hk => by rw [ei _ (by omega), sc k hk]; rfl⟩, ⟨by decide, by decide⟩, ⟨by decide, by decide⟩, fun l hl => absurd hl (Nat.not_lt_zero _)⟩
  · rw [hf]; exact ⟨by decide, by decide⟩
  · intro s hs
    obtain ⟨a1, a2, a3⟩ := sh s hs
    rw [h17 s hs, h18, h19, ei (B + 53 + 2 * s) (by omega), ei (B + 53 + 2 * s + 1) (by omega), a1, a2, a3]
    exact ⟨⟨rfl, rfl, fun _ _ => rfl⟩, ⟨0, by decide, rfl⟩, Or.inl rfl, fun _ _ => Or.inr (show inR (-99999) 99999 (0 : Int32) from ⟨by decide, by decide⟩)⟩
  · intro s hs
    rw [h20, ei (B + 61 + 4 * s) (by omega)]
    exact ⟨sl s hs, fun h => absurd (show (0 : Int32) = nI 1 from h) (by decide), fun h => absurd (show (0 : Int32) = nI 2 from h) (by decide), fun h => absurd (show (0 : Int32) = nI 3 from h) (by decide)⟩
section LW
variable {E : Ex} {κ : Kx} {ret : Option FieldType} {d Rc Rs : Nat} {nm : String} {b n i B c s : Nat} {xs : Nat → Int32} {S : Sx} {im : Mem}
set_option maxRecDepth 100000 in
set_option maxHeartbeats 4000000 in
theorem lw_open (C : Cx E κ cL_law 4 RL ret d Rc Rs nm) (hX : va_X b n xs κ.2.2.2.2.1 E.2.2.1) (hb : b < E.2.1) (hn : n ≤ 3072) (hd : 150 ≤ d) (hRc : 1643 ≤ Rc) (hRs : 109000 ≤ Rs) (hB : S.1 = B) (fin : ∀ c s i S im, c ≤ Rc → s ≤ Rs → V E κ 4 c s 1458 [some (.ref b), some (.ref B), some (.ref (B + 81)), some (.int (nI i))] [] S im) : V E κ 4 0 0 0 [some (.ref b), none, none, none] [] S im := by
  refine nL_7 (pc := 0) C dL_law_0 (by omega) (by omega) ?_
  obtain ⟨S1, im1, eS1, eI1, n1, k1, l1, r1, a1, z1, b1⟩ := nS_all (c := 6) (n := 0) (im := im) hB
  rw [← eS1, ← eI1, hB]
  refine z_dup (pc := 3) C dL_law_3 rfl ?_
  refine kL_9 (pc := 4) C dL_law_4 (c6_init κ.2.1 E S1 im1 B n1 k1) (by omega) (Nat.le_of_ble_eq_true rfl) (by omega) (by omega) (fun S2 im2 h2 => ?_)
  obtain ⟨N2, hC2, -, -, i2, si, t1, t2, t3, sh, sl⟩ := h2
  refine z_astore_n (pc := 7) C dL_law_7 (by decide) rfl ?_
  refine nL_10 (pc := 8) C dL_law_8 (by omega) (by omega) ?_
  obtain ⟨S3, im3, eS3, eI3, n3, k3, l3, r3, a3, z3, b3⟩ := nS_all (c := 7) (n := 0) (im := im2) N2
  rw [← eS3, ← eI3, N2]
  refine z_dup (pc := 11) C dL_law_11 rfl ?_
  refine kL_12 (pc := 12) C dL_law_12 (m7_init κ.2.1 E S3 im3 (B + 81) n3 k3 l3 r3 z3) (by omega) (Nat.le_of_ble_eq_true rfl) (by omega) (by omega) (fun S4 im4 h4 => ?_)
  obtain ⟨N4, hM4, e4, i4, m3, m4, m11, m37, hf, hk, h17, h18, h19, h20, h9, h25⟩ := h4
  refine z_astore_n (pc := 15) C dL_law_15 (by decide) rfl ?_
  refine z_iconstN (pc := 16) C 0 dL_law_16 ?_
  refine z_istore_n (pc := 17) C dL_law_17 (by decide) rfl ?_
  exact lw_loop C hX hb hn hd fin 512 _ _ 0 S4 im4 (by omega) (by omega) (by omega) (by omega) (INV_new hC2 hM4 N4 (fun a ha => (a3 a (by omega)).tr (e4 a ha)) (fun a ha => (i4 a ha).trans (b3 a (by omega))) (i2.trans z1) si t1 t2 t3 sh sl m3 m4 m11 m37 hf hk h17 h18 h19 h20 h9 h25)
end LW
