/-! rows of the walk V: fields, arrays, new cells -/
def up2 (im : Mem) (q k : Nat) (v : Int32) : Mem := va_up im q (upd (im q) k v)
def CF (ci : Nat) (Cn : String) (T : u_T) (N : Nat) (ty : Nat → FieldType) : Prop := vwCl[ci]? = some (Cn, T, N) ∧ (∀ w ∈ u_ws Cn T N, w ∈ tb) ∧ (∀ k, k < N → parseFieldDescriptor (T k).2.2.1 = some (ty k)) ∧ (∀ a, a < N → ∀ b, b < N → a ≠ b → (T a).2.1 ≠ (T b).2.1) ∧ ci < 8 ∧ ∀ i r, (fls ci i r).length = N
theorem cf0 : CF 0 RX0 TX0 7 tyX0 := ⟨rfl, inT0, tyX0_ok, nmX0, by decide, fun _ _ => rfl⟩
theorem cf1 : CF 1 RX1 TX1 3 tyX1 := ⟨rfl, inT1, tyX1_ok, nmX1, by decide, fun _ _ => rfl⟩
theorem cf2 : CF 2 RX2 TX2 4 tyX2 := ⟨rfl, inT2, tyX2_ok, nmX2, by decide, fun _ _ => rfl⟩
theorem cf3 : CF 3 RX3 TX3 12 tyX3 := ⟨rfl, inT3, tyX3_ok, nmX3, by decide, fun _ _ => rfl⟩
theorem cf4 : CF 4 RX4 TX4 4 tyX4 := ⟨rfl, inT4, tyX4_ok, nmX4, by decide, fun _ _ => rfl⟩
theorem cf5 : CF 5 RX5 TX5 9 tyX5 := ⟨rfl, inT5, tyX5_ok, nmX5, by decide, fun _ _ => rfl⟩
theorem cf6 : CF 6 RX6 TX6 10 tyX6 := ⟨rfl, inT6, tyX6_ok, nmX6, by decide, fun _ _ => rfl⟩
theorem cf7 : CF 7 RX7 TX7 38 tyX7 := ⟨rfl, inT7, tyX7_ok, nmX7, by decide, fun _ _ => rfl⟩
theorem cel_obj {E : Ex} {S : Sx} {im : Mem} {q ci : Nat} (hK : S.2.1 q = ci) (h8 : ci < 8) : cel E S im q = .inr (ci, fls ci (im q) (S.2.2.2 q)) := by
  unfold cel; rw [hK, if_pos h8]
theorem cel_int {E : Ex} {S : Sx} {im : Mem} {q c : Nat} (hK : S.2.1 q = c) (h1 : 8 ≤ c) (h2 : c < 11) : cel E S im q = .inl (E.2.2.2.1 (c - 8), S.2.2.1 q, .inl (im q)) := by
  unfold cel; rw [hK, if_neg (by omega), if_pos h2]
theorem cel_ref {E : Ex} {S : Sx} {im : Mem} {q c : Nat} (hK : S.2.1 q = c) (h1 : 11 ≤ c) : cel E S im q = .inl (E.2.2.2.1 (c - 8), S.2.2.1 q, .inr (.inr (.inr (.inr (S.2.2.2 q))))) := by
  unfold cel; rw [hK, if_neg (by omega), if_neg (by omega)]
theorem up_s {α : Type} (f : Nat → α) (k : Nat) (v : α) : va_up f k v k = v := by simp [va_up]
theorem up_n {α : Type} (f : Nat → α) {k j : Nat} (v : α) (h : j ≠ k) : va_up f k v j = f j := by simp [va_up, h]
theorem cel_ne {E : Ex} {S : Sx} {im : Mem} {q a : Nat} {f : Nat → Int32} (h : a ≠ q) : cel E S (va_up im q f) a = cel E S im a := by
  unfold cel; rw [up_n _ _ h]
theorem hG.at {E : Ex} {S : Sx} {im : Mem} {H : Heap} (h : hG E S im H) {q : Nat} (hq : S.2.1 q < 15) : va_P E.1 vwCl [(q, cel E S im q)] H := by
  intro k x hx
  cases k with
  | zero => simp at hx; subst hx; exact (h.2.2.2 q hq).2
  | succ k => simp at hx
theorem hG.put {E : Ex} {S : Sx} {im : Mem} {H H' : Heap} {q : Nat} {f : Nat → Int32} (h : hG E S im H) (hq : S.2.1 q < 15) (hz : H'.size = H.size) (oq : ∀ a : Nat, a ≠ q → H'[a]? = H[a]?) (he : va_at E.1 vwCl (q, cel E S (va_up im q f) q) H') : hG E S (va_up im q f) H' := by
  have hB := (h.2.2.2 q hq).1
  refine ⟨hz.trans h.1, h.2.1, fun a ha => (oq a (by omega)).trans (h.2.2.1 a ha), fun a ha => ?_⟩
  by_cases e : a = q
  · subst e; exact ⟨hB, he⟩
  · have h9 := h.2.2.2 a ha
    exact ⟨h9.1, by rw [cel_ne e]; exact h9.2.kept (oq a e)⟩
def rS (S : Sx) (q : Nat) (g : Nat → Option Nat) : Sx := (S.1, S.2.1, S.2.2.1, va_up S.2.2.2 q g)
theorem cel_neR {E : Ex} {S : Sx} {im : Mem} {q a : Nat} {g : Nat → Option Nat} (h : a ≠ q) : cel E (rS S q g) im a = cel E S im a := by
  unfold cel rS; simp only [up_n _ _ h]
theorem hG.putR {E : Ex} {S : Sx} {im : Mem} {H H' : Heap} {q : Nat} {g : Nat → Option Nat} (h : hG E S im H) (hq : S.2.1 q < 15) (hz : H'.size = H.size) (oq : ∀ a : Nat, a ≠ q → H'[a]? = H[a]?) (he : va_at E.1 vwCl (q, cel E (rS S q g) im q) H') : hG E (rS S q g) im H' := by
  have hB := (h.2.2.2 q hq).1
  refine ⟨hz.trans h.1, h.2.1, fun a ha => (oq a (by omega)).trans (h.2.2.1 a ha), fun a ha => ?_⟩
  by_cases e : a = q
  · subst e; exact ⟨hB, he⟩
  · have h9 := h.2.2.2 a ha
    exact ⟨h9.1, by rw [cel_neR e]; exact h9.2.kept (oq a e)⟩
def nS (S : Sx) (c len : Nat) : Sx := (S.1 + 1, va_up S.2.1 S.1 c, va_up S.2.2.1 S.1 len, va_up S.2.2.2 S.1 (fun _ => none))
def nM (S : Sx) (im : Mem) : Mem := va_up im S.1 (fun _ => 0)
theorem cel_neN {E : Ex} {S : Sx} {im : Mem} {a c len : Nat} (h : a ≠ S.1) : cel E (nS S c len) (nM S im) a = cel E S im a := by
  unfold cel nS nM; simp only [up_n _ _ h]
theorem hG.new {E : Ex} {S : Sx} {im : Mem} {H H' : Heap} {c len : Nat} (h : hG E S im H) (hz : H'.size = S.1 + 1) (oq : ∀ a : Nat, a < S.1 → H'[a]? = H[a]?) (he : va_at E.1 vwCl (S.1, cel E (nS S c len) (nM S im) S.1) H') : hG E (nS S c len) (nM S im) H' := by
  have hB := h.2.1
  refine ⟨hz, Nat.le_succ_of_le h.2.1, fun a ha => (oq a (by omega)).trans (h.2.2.1 a ha), fun a ha => ?_⟩
  by_cases e : a = S.1
  · subst e; exact ⟨hB, he⟩
  · have ha' : S.2.1 a < 15 := by have := ha; simp only [nS, up_n _ _ e] at this; exact this
    have h9 := h.2.2.2 a ha'
    have hlt := h9.2.lt
    rw [h.1] at hlt
    exact ⟨h9.1, by rw [cel_neN e]; exact h9.2.kept (oq a hlt)⟩
theorem locs_add {E : Ex} {locs : List Loc} {q i : Nat} (h : ∀ x ∈ locs, bs E x.base) (hq : bs E q) : ∀ x ∈ locs ++ [(⟨q, i⟩ : Loc)], bs E x.base := by
  intro x hx
  rcases List.mem_append.mp hx with h1 | h1
  · exact h x h1
  · rw [List.mem_singleton.mp h1]; exact hq
theorem fls_putI {ci k : Nat} {N : Nat} (hl : ∀ i r, (fls ci i r).length = N) : True := trivial
section ZH
variable {E : Ex} {κ : Kx} {cc : ByteArray} {nL : Nat} {own : String} {ret : Option FieldType} {d Rc Rs : Nat} {nm : String} {cells slots pc : Nat} {L : List (Option Value)} {st : List Value} {S : Sx} {im : Mem}
theorem z_get (C : Cx E κ cc nL own ret d Rc Rs nm) {ci k ix N : Nat} {Cn ref : String} {T : u_T} {ty : Nat → FieldType} (cf : CF ci Cn T N ty) (hd : decode cc pc = .ok (.getfield ix, 3)) (hw : Cond.fieldLink own ix ref (T k).2.1 (T k).2.2.1 ∈ tb) (hs : ref = (T k).1) (hk : k < N) {q : Nat} (hK : S.2.1 q = ci) {v : Value} (hf : (fls ci (im q) (S.2.2.2 q))[k]? = some v) (kk : V E κ nL cells slots (pc + 3) L (v :: st) S im) : V E κ nL cells slots pc L (.ref q :: st) S im := fun H ls locs h1 h2 h3 => by
  have h8 := cf.2.2.2.2.1
  have hP := h2.at (q := q) (by omega)
  rw [cel_obj hK h8] at hP
  exact va_get C.1 C.2.1 C.2.2.2.2.1 cf.2.1 C.2.2.2.1 C.2.2.2.2.2.2.2.2.1.1 hP 0 rfl cf.1 k hk (C.2.2.2.2.1 _ hw) (fun x hx => by rw [hs]; exact hx) hf hd (kk H ls locs h1 h2 h3)
theorem z_putV (C : Cx E κ cc nL own ret d Rc Rs nm) {ci k ix N : Nat} {Cn ref : String} {T : u_T} {ty : Nat → FieldType} (cf : CF ci Cn T N ty) (hd : decode cc pc = .ok (.putfield ix, 3)) (hw : Cond.fieldLink own ix ref (T k).2.1 (T k).2.2.1 ∈ tb) (hs : ref = (T k).1) (hk : k < N) (hfin : (T k).2.2.2 = false ∨ ((T k).2.2.2 = true ∧ nm = "<init>" ∧ (T k).1 = own)) {q : Nat} (hK : S.2.1 q = ci) {v : Value} (hn : narrow (ty k) v = v) (hfit : fits (ty k) v = true)
    (kk : ∀ (H' : Heap) (i : Nat), H'.size = H'.size → ∀ (H : Heap), hG E S im H → H'.size = H.size → (∀ a : Nat, a ≠ q → H'[a]? = H[a]?) → va_at E.1 vwCl (q, .inr (ci, (fls ci (im q) (S.2.2.2 q)).set k v)) H' → ∀ ls locs, lh ls nL L → (∀ x ∈ locs, bs E x.base) → kW κ H' locs cells slots (F0 κ.2.2.2.2.2.1 (pc + 3) ls st)) : V E κ nL cells slots pc L (v :: .ref q :: st) S im := fun H ls locs h1 h2 h3 => by
  have h8 := cf.2.2.2.2.1
  have hq15 : S.2.1 q < 15 := by omega
  have hB := (h2.2.2.2 q hq15).1
  have hP := (h2.2.2.2 q hq15).2
  rw [cel_obj hK h8] at hP
  have hts := C.2.2.2.2.1
  have hKn := C.2.2.2.2.2.2.2.2.1.1
  have hap := va_apart (own := own) hts cf.2.1 ty cf.2.2.1 cf.2.2.2.1 hKn cf.1
  obtain ⟨r, g1, cell, q1, q2, q3, q4⟩ := hP
  have hr : r = (Cn, T, N) := Option.some.inj (g1.symm.trans cf.1)
  subst hr
  obtain ⟨hS, hfc, kC, hkC, hkind⟩ := hKn.1 ci _ cf.1
  obtain ⟨cf', kf, fi, f, hi, hsl⟩ := hS k hk
  have hst := (u_facts hfc hkC (u_lays hts cf.2.1 hk) hi).1
  have hlen : k < (fls ci (im q) (S.2.2.2 q)).length := by rw [cf.2.2.2.2.2]; exact hk
  have hlay := hts _ (cf.2.1 _ (u_in_lay hk))
  unfold u_lay at hlay
  have fin : ∀ H' : Heap, H'[q]? = some (cell.setSlot f.slot v) → H'.size = H.size → (∀ a, a ≠ q → H'[a]? = H[a]?) → kW κ H' (locs ++ [⟨q, f.slot⟩]) cells slots (F0 κ.2.2.2.2.2.1 (pc + 3) ls st) := by
    intro H' e1 e2 e3
    rw [hsl] at e1 ⊢
    exact kk H' 0 rfl H h2 e2 e3 ⟨_, cf.1, t_OB.to (V := updV (vp_V (fls ci (im q) (S.2.2.2 q))) k v) ⟨_, e1, q2, q3, t_set q4 hap hk v⟩ (fun j _ => vp_updV_set hlen v j)⟩ ls _ h1 (locs_add h3 hB)
  rcases hfin with hfin | ⟨hfin, hnm, hdecl⟩
  · rw [if_neg (by rw [hfin]; decide)] at hlay
    have h6 := u_store hfc hkC hkind hlay hi (cf.2.2.1 k hk) hn hfit
    exact W.putK C.1 C.2.1 (f := f) ⟨C.2.2.2.1, hts _ hw, ⟨_, _, _, by rw [hs]; exact hi⟩, hst⟩ (by rw [q2]; exact h6) q1 q3 (by rw [hsl]; exact k2_hasslot (q4 k hk)) rfl rfl hd fin
  · rw [if_pos hfin] at hlay
    have hown := C.2.2.2.1
    have hcf : κ.2.2.2.2.2.1.cls = cf' := by
      obtain ⟨_, _, c', _, _, _, -, -, hf', -, -, -, hown2, -⟩ := Cond.laysFinal_spec hlay
      have e1 : c' = cf' := by have := hi.symm.trans hf'; simp at this; exact this.1.symm
      rw [hdecl] at hown2
      rw [← e1]; exact Option.some.inj (hown.symm.trans hown2)
    have h6 := u_fits hfc hkC hkind (Or.inr hlay) hi (cf.2.2.1 k hk) hn hfit
    exact W.putFinK C.1 C.2.1 hown (hts _ hw) (by rw [hs]; exact hi) hst hcf (by rw [C.2.2.2.2.2.2.2.2.2]; exact hnm) (by rw [q2]; exact h6) q1 q3 (by rw [hsl]; exact k2_hasslot (q4 k hk)) rfl rfl hd fin
theorem z_putI (C : Cx E κ cc nL own ret d Rc Rs nm) {ci k ix N : Nat} {Cn ref : String} {T : u_T} {ty : Nat → FieldType} (cf : CF ci Cn T N ty) (hd : decode cc pc = .ok (.putfield ix, 3)) (hw : Cond.fieldLink own ix ref (T k).2.1 (T k).2.2.1 ∈ tb) (hs : ref = (T k).1) (hk : k < N) (hfin : (T k).2.2.2 = false ∨ ((T k).2.2.2 = true ∧ nm = "<init>" ∧ (T k).1 = own)) (hf : ∀ (i : Nat → Int32) (r : Nat → Option Nat) (v : Int32), (fls ci i r).set k (.int v) = fls ci (upd i k v) r) {q : Nat} (hK : S.2.1 q = ci) {v : Int32} (hn : narrow (ty k) (.int v) = .int v) (hfit : fits (ty k) (.int v) = true)
    (kk : V E κ nL cells slots (pc + 3) L st S (up2 im q k v)) : V E κ nL cells slots pc L (.int v :: .ref q :: st) S im :=
  z_putV C cf hd hw hs hk hfin hK hn hfit (fun H' _ _ H h2 e2 e3 he ls locs h1 h3 => kk H' ls locs h1 (h2.put (by have := cf.2.2.2.2.1; omega) e2 e3 (by rw [cel_obj hK cf.2.2.2.2.1, up_s, ← hf]; exact he)) h3)
theorem z_putR (C : Cx E κ cc nL own ret d Rc Rs nm) {ci k ix N : Nat} {Cn ref : String} {T : u_T} {ty : Nat → FieldType} (cf : CF ci Cn T N ty) (hd : decode cc pc = .ok (.putfield ix, 3)) (hw : Cond.fieldLink own ix ref (T k).2.1 (T k).2.2.1 ∈ tb) (hs : ref = (T k).1) (hk : k < N) (hfin : (T k).2.2.2 = false ∨ ((T k).2.2.2 = true ∧ nm = "<init>" ∧ (T k).1 = own)) (hf : ∀ (i : Nat → Int32) (r : Nat → Option Nat) (v : Option Nat), (fls ci i r).set k (va_rf v) = fls ci i (va_up r k v)) {q a : Nat} (hK : S.2.1 q = ci) (hn : narrow (ty k) (.ref a) = .ref a) (hfit : fits (ty k) (.ref a) = true)
    (kk : V E κ nL cells slots (pc + 3) L st (rS S q (va_up (S.2.2.2 q) k (some a))) im) : V E κ nL cells slots pc L (.ref a :: .ref q :: st) S im :=
  z_putV C cf hd hw hs hk hfin hK hn hfit (fun H' _ _ H h2 e2 e3 he ls locs h1 h3 => kk H' ls locs h1 (h2.putR (by have := cf.2.2.2.2.1; omega) e2 e3 (by
    rw [cel_obj (S := rS S q (va_up (S.2.2.2 q) k (some a))) hK cf.2.2.2.2.1]
    have e9 : (rS S q (va_up (S.2.2.2 q) k (some a))).2.2.2 q = va_up (S.2.2.2 q) k (some a) := up_s _ _ _
    rw [e9, ← hf]; exact he)) h3)
/-! arrays -/
theorem z_iald (C : Cx E κ cc nL own ret d Rc Rs nm) {a n x : Nat} (hd : decode cc pc = .ok (.iaload, 1)) (hK : S.2.1 a = 8) (hN : S.2.2.1 a = n) (hx : x < n) (hn : n < 2 ^ 31) (kk : V E κ nL cells slots (pc + 1) L (.int (im a x) :: st) S im) : V E κ nL cells slots pc L (.int (nI x) :: .ref a :: st) S im := fun H ls locs h1 h2 h3 => by
  have hP := h2.at (q := a) (by omega)
  rw [cel_int hK (by decide) (by decide), hN] at hP
  refine va_iald C.1 C.2.1 C.2.2.2.2.2.2.2.2.1.1 hP 0 0 rfl rfl (vp_in_nI hx hn) hd ?_
  rw [nI_clamp (by omega)]
  exact kk H ls locs h1 h2 h3
theorem z_zald (C : Cx E κ cc nL own ret d Rc Rs nm) {a n x : Nat} (hd : decode cc pc = .ok (.baload, 1)) (hK : S.2.1 a = 9) (hN : S.2.2.1 a = n) (hx : x < n) (hn : n < 2 ^ 31) (kk : V E κ nL cells slots (pc + 1) L (.int (im a x) :: st) S im) : V E κ nL cells slots pc L (.int (nI x) :: .ref a :: st) S im := fun H ls locs h1 h2 h3 => by
  have hP := h2.at (q := a) (by omega)
  rw [cel_int hK (by decide) (by decide), hN] at hP
  refine va_zald C.1 C.2.1 C.2.2.2.2.2.2.2.2.1.1 hP 0 1 rfl rfl (vp_in_nI hx hn) hd ?_
  rw [nI_clamp (by omega)]
  exact kk H ls locs h1 h2 h3
theorem z_cald (C : Cx E κ cc nL own ret d Rc Rs nm) {a n x : Nat} (hd : decode cc pc = .ok (.caload, 1)) (hK : S.2.1 a = 10) (hN : S.2.2.1 a = n) (hx : x < n) (hn : n < 2 ^ 31) (kk : V E κ nL cells slots (pc + 1) L (.int (im a x) :: st) S im) : V E κ nL cells slots pc L (.int (nI x) :: .ref a :: st) S im := fun H ls locs h1 h2 h3 => by
  have hP := h2.at (q := a) (by omega)
  rw [cel_int hK (by decide) (by decide), hN] at hP
  refine va_cald C.1 C.2.1 C.2.2.2.2.2.2.2.2.1.1 hP 0 2 rfl rfl (vp_in_nI hx hn) hd ?_
  rw [nI_clamp (by omega)]
  exact kk H ls locs h1 h2 h3
theorem z_alen (C : Cx E κ cc nL own ret d Rc Rs nm) {a n : Nat} (hd : decode cc pc = .ok (.arraylength, 1)) (hK : S.2.1 a = 8) (hN : S.2.2.1 a = n) (kk : V E κ nL cells slots (pc + 1) L (.int (nI n) :: st) S im) : V E κ nL cells slots pc L (.ref a :: st) S im := fun H ls locs h1 h2 h3 => by
  have hP := h2.at (q := a) (by omega)
  rw [cel_int hK (by decide) (by decide), hN] at hP
  exact va_alen C.1 C.2.1 C.2.2.2.2.2.2.2.2.1.1 hP 0 0 rfl rfl rfl hd (kk H ls locs h1 h2 h3)
theorem zarr_set {E : Ex} {S : Sx} {im : Mem} {H H1 : Heap} {a n x c : Nat} {cA : ClassId} {v : Int32} (h2 : hG E S im H) (hK : S.2.1 a = c) (h8 : 8 ≤ c) (h11 : c < 11) (hN : S.2.2.1 a = n) (hA : E.2.2.2.1 (c - 8) = cA) (e : H1[a]? = some ((vp_cell cA (n, .inl (im a))).setSlot x (.int v))) (z : H1.size = H.size) (oq : ∀ q : Nat, q ≠ a → H1[q]? = H[q]?) : hG E S (up2 im a x v) H1 := by
  refine h2.put (by omega) z oq ?_
  rw [cel_int hK h8 h11, hN, up_s, hA]
  show H1[a]? = some (vp_cell _ _)
  rw [e, vp_cell_i, vp_cell_i, arrV_store]
  congr 2
  funext q
  by_cases hq : q = x
  · subst hq; simp [updV, upd]
  · simp [updV, upd, hq]
theorem z_iast (C : Cx E κ cc nL own ret d Rc Rs nm) {a n x : Nat} {v : Int32} (hd : decode cc pc = .ok (.iastore, 1)) (hK : S.2.1 a = 8) (hN : S.2.2.1 a = n) (hx : x < n) (hn : n < 2 ^ 31) (kk : V E κ nL cells slots (pc + 1) L st S (up2 im a x v)) : V E κ nL cells slots pc L (.int v :: .int (nI x) :: .ref a :: st) S im := fun H ls locs h1 h2 h3 => by
  have hP := h2.at (q := a) (by omega)
  have hB := (h2.2.2.2 a (by omega)).1
  rw [cel_int hK (by decide) (by decide), hN] at hP
  refine W.iast C.1 C.2.1 (hP 0 _ rfl) ((C.2.2.2.2.2.2.2.2.1.1.2 0 _ rfl).1 n (fun j => .int (im a j))) (fun q => by cases q) (by show ¬ (nI x < 0 ∨ (arrV _ _ _).slots.size ≤ _); rw [arrV_size]; exact vp_in_nI hx hn) rfl rfl hd fun H1 e z oq => ?_
  rw [nI_clamp (by omega)] at e
  exact kk H1 ls _ h1 (zarr_set h2 hK (by decide) (by decide) hN rfl e z oq) (locs_add h3 hB)
theorem z_zast (C : Cx E κ cc nL own ret d Rc Rs nm) {a n x : Nat} {v : Int32} (hd : decode cc pc = .ok (.bastore, 1)) (hK : S.2.1 a = 9) (hN : S.2.2.1 a = n) (hx : x < n) (hn : n < 2 ^ 31) (hv : narrow .boolean (.int v) = .int v) (kk : V E κ nL cells slots (pc + 1) L st S (up2 im a x v)) : V E κ nL cells slots pc L (.int v :: .int (nI x) :: .ref a :: st) S im := fun H ls locs h1 h2 h3 => by
  have hP := h2.at (q := a) (by omega)
  have hB := (h2.2.2.2 a (by omega)).1
  rw [cel_int hK (by decide) (by decide), hN] at hP
  refine W.zast C.1 C.2.1 (hP 0 _ rfl) ((C.2.2.2.2.2.2.2.2.1.1.2 1 _ rfl).1 n (fun j => .int (im a j))) (fun q => by cases q) (by show ¬ (nI x < 0 ∨ (arrV _ _ _).slots.size ≤ _); rw [arrV_size]; exact vp_in_nI hx hn) rfl rfl hd fun H1 e z oq => ?_
  rw [nI_clamp (by omega), hv] at e
  exact kk H1 ls _ h1 (zarr_set h2 hK (by decide) (by decide) hN rfl e z oq) (locs_add h3 hB)
theorem z_cast (C : Cx E κ cc nL own ret d Rc Rs nm) {a n x : Nat} {v : Int32} (hd : decode cc pc = .ok (.castore, 1)) (hK : S.2.1 a = 10) (hN : S.2.2.1 a = n) (hx : x < n) (hn : n < 2 ^ 31) (hv : narrow .char (.int v) = .int v) (kk : V E κ nL cells slots (pc + 1) L st S (up2 im a x v)) : V E κ nL cells slots pc L (.int v :: .int (nI x) :: .ref a :: st) S im := fun H ls locs h1 h2 h3 => by
  have hP := h2.at (q := a) (by omega)
  have hB := (h2.2.2.2 a (by omega)).1
  rw [cel_int hK (by decide) (by decide), hN] at hP
  refine W.cast C.1 C.2.1 (hP 0 _ rfl) ((C.2.2.2.2.2.2.2.2.1.1.2 2 _ rfl).1 n (fun j => .int (im a j))) (fun q => by cases q) (by show ¬ (nI x < 0 ∨ (arrV _ _ _).slots.size ≤ _); rw [arrV_size]; exact vp_in_nI hx hn) rfl rfl hd fun H1 e z oq => ?_
  rw [nI_clamp (by omega), hv] at e
  exact kk H1 ls _ h1 (zarr_set h2 hK (by decide) (by decide) hN rfl e z oq) (locs_add h3 hB)
theorem tys_ref {E : Ex} {c : Nat} (h1 : 11 ≤ c) (h2 : c < 15) : ∃ (ci : Nat) (r : vw_C), vwCl[ci]? = some r ∧ ci < 8 ∧ (tys E)[c - 8]? = some (E.2.2.2.1 (c - 8), .object r.1) ∧ ci = (if c = 14 then 4 else c - 11) := by
  rcases (show c = 11 ∨ c = 12 ∨ c = 13 ∨ c = 14 by omega) with rfl | rfl | rfl | rfl
  · exact ⟨0, _, rfl, by decide, rfl, rfl⟩
  · exact ⟨1, _, rfl, by decide, rfl, rfl⟩
  · exact ⟨2, _, rfl, by decide, rfl, rfl⟩
  · exact ⟨4, _, rfl, by decide, rfl, rfl⟩
theorem z_aaldV (C : Cx E κ cc nL own ret d Rc Rs nm) {a c n x : Nat} (hd : decode cc pc = .ok (.aaload, 1)) (hK : S.2.1 a = c) (hc : 11 ≤ c ∧ c < 15) (hN : S.2.2.1 a = n) (hx : x < n) (hn : n < 2 ^ 31) (kk : V E κ nL cells slots (pc + 1) L (va_rf (S.2.2.2 a x) :: st) S im) : V E κ nL cells slots pc L (.int (nI x) :: .ref a :: st) S im := fun H ls locs h1 h2 h3 => by
  have hP := h2.at (q := a) (by omega)
  rw [cel_ref hK hc.1, hN] at hP
  obtain ⟨ci, r, g1, g2, g3, -⟩ := tys_ref (E := E) hc.1 hc.2
  refine va_aldq C.1 C.2.1 C.2.2.2.2.2.2.2.2.1.1 hP 0 (c - 8) rfl g3 (vp_in_nI hx hn) hd ?_
  rw [nI_clamp (by omega)]
  exact kk H ls locs h1 h2 h3
theorem z_aald (C : Cx E κ cc nL own ret d Rc Rs nm) {a c n x b : Nat} (hd : decode cc pc = .ok (.aaload, 1)) (hK : S.2.1 a = c) (hc : 11 ≤ c ∧ c < 15) (hN : S.2.2.1 a = n) (hx : x < n) (hn : n < 2 ^ 31) (hr : S.2.2.2 a x = some b) (kk : V E κ nL cells slots (pc + 1) L (.ref b :: st) S im) : V E κ nL cells slots pc L (.int (nI x) :: .ref a :: st) S im := z_aaldV C hd hK hc hN hx hn (by rw [hr]; exact kk)
theorem z_aast (C : Cx E κ cc nL own ret d Rc Rs nm) {a c n x b : Nat} (hd : decode cc pc = .ok (.aastore, 1)) (hK : S.2.1 a = c) (hc : 11 ≤ c ∧ c < 15) (hN : S.2.2.1 a = n) (hx : x < n) (hn : n < 2 ^ 31) (hb : S.2.1 b = if c = 14 then 4 else c - 11) (kk : V E κ nL cells slots (pc + 1) L st (rS S a (va_up (S.2.2.2 a) x (some b))) im) : V E κ nL cells slots pc L (.ref b :: .int (nI x) :: .ref a :: st) S im := fun H ls locs h1 h2 h3 => by
  have hP := h2.at (q := a) (by omega)
  have hB := (h2.2.2.2 a (by omega)).1
  rw [cel_ref hK hc.1, hN] at hP
  obtain ⟨ci, r, g1, g2, g3, g4⟩ := tys_ref (E := E) hc.1 hc.2
  have hPb := h2.at (q := b) (by omega)
  rw [cel_obj (ci := ci) (by rw [hb, g4]) g2] at hPb
  have hKn := C.2.2.2.2.2.2.2.2.1.1
  obtain ⟨r', hr', cellV, k1, k2, k3, -⟩ := hPb 0 _ rfl
  have hcls := (hKn.1 ci r g1).2
  obtain ⟨kA, comp, m1, m2, m3, -⟩ := (hKn.2 (c - 8) _ g3).2
  have hcomp : comp = E.1.1 ci := Option.some.inj (m3.symm.trans hcls.1)
  subst hcomp
  obtain ⟨kC, hkC, -⟩ := hcls.2
  refine W.aast C.1 C.2.1 (hP 0 _ rfl) (fun q h => by cases h) (fun h => by cases h) m1 m2 rfl hkC ⟨nI_pos (by omega), by show _ < (arrV _ _ _).slots.size; rw [arrV_size, nI_clamp (by omega)]; exact hx⟩ k1 (fun q h => by rw [k3] at h; cases h) (by rw [k2]; exact hkC) (by rw [k2]; exact va_assign hcls) rfl rfl hd fun H1 e z oq => ?_
  rw [nI_clamp (by omega)] at e
  refine kk H1 ls _ h1 (h2.putR (by omega) z oq ?_) (locs_add h3 hB)
  rw [cel_ref (S := rS S a (va_up (S.2.2.2 a) x (some b))) hK hc.1]
  show H1[a]? = some (vp_cell _ _)
  have e9 : (rS S a (va_up (S.2.2.2 a) x (some b))).2.2.2 a = va_up (S.2.2.2 a) x (some b) := up_s _ _ _
  have e8 : (rS S a (va_up (S.2.2.2 a) x (some b))).2.2.1 a = n := hN
  rw [e, e9, e8, vp_cell_q, vp_cell_q, arrV_store]
  congr 2
  funext q
  by_cases hq : q = x
  · subst hq; simp [updV, va_up, va_rf]
  · simp [updV, va_up, hq]
/-! new cells -/
theorem z_new (C : Cx E κ cc nL own ret d Rc Rs nm) {ci ix N : Nat} {Cn : String} {T : u_T} {ty : Nat → FieldType} (cf : CF ci Cn T N ty) (hd : decode cc pc = .ok (.new ix, 3)) (w1 : Cond.classLink own ix Cn ∈ tb) (w2 : Cond.instantiable Cn N ∈ tb) (w3 : Cond.initialized Cn ∈ tb) (hdef : ∀ j, j < N → defaultValue (ty j) = vp_V (fls ci (fun _ => 0) (fun _ => none)) j) (hc : cells + 1 ≤ Rc) (hs : slots + N ≤ Rs)
    (kk : V E κ nL (cells + 1) (slots + N) (pc + 3) L (.ref S.1 :: st) (nS S ci 0) (nM S im)) : V E κ nL cells slots pc L st S im := fun H ls locs h1 h2 h3 => by
  have hts := C.2.2.2.2.1
  have hR := C.2.2.2.2.2.2.2.1
  have hKn := C.2.2.2.2.2.2.2.2.1.1.1 ci _ cf.1
  refine W.newcK C.1 C.2.1 C.2.2.2.1 (hts _ w1) (hts _ w2) (hts _ w3) rfl hd (by omega) (by omega) hKn.2.1 h2.1 fun H1 kC hkC e1 z1 o1 => ?_
  refine kk H1 ls locs h1 (h2.new z1 (fun a ha => o1 a ha) ?_) h3
  have e9 : (nS S ci 0).2.1 S.1 = ci := up_s _ _ _
  rw [cel_obj e9 cf.2.2.2.2.1]
  have e8 : (nS S ci 0).2.2.2 S.1 = fun _ => none := up_s _ _ _
  have e7 : nM S im S.1 = fun _ => 0 := up_s _ _ _
  rw [e8, e7]
  exact ⟨_, cf.1, (u_born ty hts cf.2.1 hKn hkC e1 cf.2.2.1).to hdef⟩
theorem z_newa (C : Cx E κ cc nL own ret d Rc Rs nm) (c : Nat) {atype : ArrayType} {n : Nat} {ty : FieldType} (hd : decode cc pc = .ok (.newarray atype, 2)) (hty : newarray.typeOf atype = ty) (w1 : Cond.arrayClass ty ∈ tb) (hc8 : 8 ≤ c) (hc11 : c < 11) (htc : (tys E)[c - 8]? = some (E.2.2.2.1 (c - 8), ty)) (hdef : defaultValue ty = .int 0) (hra : va_RA κ.2.2.2.2.1 (E.2.2.2.1 (c - 8)) ty → κ.2.2.2.2.1.vm.findClass ("[" ++ ty.toString) = some (E.2.2.2.1 (c - 8))) (hn : n < 2 ^ 31) (hb : n * componentBytes ty ≤ 536870912) (hc : cells + 1 ≤ Rc) (hs : slots + n ≤ Rs)
    (kk : V E κ nL (cells + 1) (slots + n) (pc + 2) L (.ref S.1 :: st) (nS S c n) (nM S im)) : V E κ nL cells slots pc L (.int (nI n) :: st) S im := fun H ls locs h1 h2 h3 => by
  have hts := C.2.2.2.2.1
  have hR := C.2.2.2.2.2.2.2.1
  have hKn := C.2.2.2.2.2.2.2.2.1.1
  subst hty
  refine va_newaK C.1 C.2.1 (hts _ w1) rfl hd rfl (nI_pos hn) (nI_clamp hn) hb (by omega) (by omega) h2.1 fun H1 cA e1 z1 o1 hAr hNm => ?_
  have hcA : cA = E.2.2.2.1 (c - 8) := Option.some.inj (hNm.symm.trans (hra (hKn.2 (c - 8) _ htc).2))
  subst hcA
  refine kk H1 ls locs h1 (h2.new z1 (fun a ha => o1 a ha) ?_) h3
  have e9 : (nS S c n).2.1 S.1 = c := up_s _ _ _
  have e8 : (nS S c n).2.2.1 S.1 = n := up_s _ _ _
  have e7 : nM S im S.1 = fun _ => 0 := up_s _ _ _
  rw [cel_int e9 hc8 hc11, e8, e7]
  show H1[S.1]? = some (vp_cell _ _)
  rw [e1, hdef, vp_cell_i]
theorem z_anew (C : Cx E κ cc nL own ret d Rc Rs nm) (c : Nat) {ix n : Nat} {Cn : String} (hd : decode cc pc = .ok (.anewarray ix, 3)) (w1 : Cond.classLink own ix Cn ∈ tb) (w2 : Cn ∈ aos) (hc11 : 11 ≤ c) (hc15 : c < 15) (htc : (tys E)[c - 8]? = some (E.2.2.2.1 (c - 8), .object Cn)) (hn : n < 2 ^ 27) (hc : cells + 1 ≤ Rc) (hs : slots + n ≤ Rs)
    (kk : V E κ nL (cells + 1) (slots + n) (pc + 3) L (.ref S.1 :: st) (nS S c n) (nM S im)) : V E κ nL cells slots pc L (.int (nI n) :: st) S im := fun H ls locs h1 h2 h3 => by
  have hts := C.2.2.2.2.1
  have hR := C.2.2.2.2.2.2.2.1
  have hKn := C.2.2.2.2.2.2.2.2.1.1
  have hcl : (nI n).toNatClampNeg = n := nI_clamp (by omega)
  refine W.anew C.1 C.2.1 C.2.2.2.1 (hts _ w1) (C.2.2.2.2.2.2.2.2.1.2.1.2 _ w2).use rfl hd rfl (nI_pos (by omega)) (by rw [hcl]; omega) (by omega) (by rw [hcl]; omega) fun cA kA comp a1 a2 a3 a4 => ?_
  obtain ⟨kA', comp', m1, m2, m3, m4⟩ := (hKn.2 (c - 8) _ htc).2
  have hcA : cA = E.2.2.2.1 (c - 8) := Option.some.inj (a1.symm.trans m4)
  subst hcA
  rw [hcl, h2.1]
  refine kk _ ls locs h1 (h2.new (by rw [Array.size_push, h2.1]) (fun a ha => by rw [Array.getElem?_push, if_neg (by rw [h2.1]; omega)]) ?_) h3
  have e9 : (nS S c n).2.1 S.1 = c := up_s _ _ _
  have e8 : (nS S c n).2.2.1 S.1 = n := up_s _ _ _
  have e7 : (nS S c n).2.2.2 S.1 = fun _ => none := up_s _ _ _
  rw [cel_ref e9 hc11, e8, e7]
  show (H.push _)[S.1]? = some (vp_cell _ _)
  rw [Array.getElem?_push, if_pos h2.1.symm, vp_cell_q, ← arrV_new]
  rfl
end ZH
