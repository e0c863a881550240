/-! one-instruction rows of the walk V: locals, numbers, branches, returns -/
def al : Nat → List (Option Value) → List (Nat × Value)
  | _, [] => []
  | i, some v :: t => (i, v) :: al (i + 1) t
  | i, none :: t => al (i + 1) t
theorem al_of : ∀ (L : List (Option Value)) (i j : Nat) (v : Value), L[j]? = some (some v) → (i + j, v) ∈ al i L := by
  intro L
  induction L with
  | nil => intro i j v h; simp at h
  | cons a t ih =>
    intro i j v h
    cases j with
    | zero =>
      simp at h
      subst h
      exact List.mem_cons_self
    | succ j =>
      rw [List.getElem?_cons_succ] at h
      have h2 := ih (i + 1) j v h
      rw [show i + (j + 1) = i + 1 + j by omega]
      cases a with
      | none => exact h2
      | some w => exact List.mem_cons_of_mem _ h2
theorem al_to : ∀ (L : List (Option Value)) (i : Nat) (q : Nat × Value), q ∈ al i L → ∃ k, q.1 = i + k ∧ L[k]? = some (some q.2) := by
  intro L
  induction L with
  | nil => intro i q h; exact absurd h List.not_mem_nil
  | cons a t ih =>
    intro i q h
    cases a with
    | none =>
      obtain ⟨k, h1, h2⟩ := ih (i + 1) q h
      exact ⟨k + 1, by omega, by rw [List.getElem?_cons_succ]; exact h2⟩
    | some w =>
      rcases List.mem_cons.mp h with h | h
      · subst h
        exact ⟨0, rfl, rfl⟩
      · obtain ⟨k, h1, h2⟩ := ih (i + 1) q h
        exact ⟨k + 1, by omega, by rw [List.getElem?_cons_succ]; exact h2⟩
theorem lh.has {ls : Array Slot} {nL : Nat} {L : List (Option Value)} (h : lh ls nL L) : lv_has ls nL (al 0 L) := by
  refine ⟨h.1, h.2.1, fun q hq => ?_⟩
  obtain ⟨k, e, hk⟩ := al_to L 0 q hq
  rw [e, Nat.zero_add]
  exact h.2.2 k q.2 hk
def okS (L : List (Option Value)) (i : Nat) : Bool := match i with
  | 0 => true
  | k + 1 => match L[k]? with
    | some (some v) => v.category == 1
    | _ => true
theorem okS_ne {L : List (Option Value)} {j : Nat} {w : Value} (ho : okS L (j + 1) = true) (hj : L[j]? = some (some w)) : ¬ w.category = 2 := by
  simp only [okS, hj] at ho
  intro h
  rw [h] at ho
  cases ho
theorem lh.set1 {ls' : Array Slot} {nL : Nat} {L : List (Option Value)} {i : Nat} {v : Value} (ho : okS L i = true) (h : lv_has ls' nL ((i, v) :: (al 0 L).filter (fun q => !(q.1 == i) && !(q.1 + 1 == i && q.2.category == 2)))) : lh ls' nL (L.set i (some v)) := by
  refine ⟨h.1, h.2.1, fun j w hj => ?_⟩
  by_cases hji : j = i
  · subst hji
    rw [List.getElem?_set] at hj
    simp only [if_true] at hj
    split at hj
    · simp only [Option.some.injEq] at hj
      subst hj
      exact h.2.2 (j, v) List.mem_cons_self
    · cases hj
  · rw [List.getElem?_set_ne (Ne.symm hji)] at hj
    have h2 := al_of L 0 j w hj
    rw [Nat.zero_add] at h2
    refine h.2.2 (j, w) (List.mem_cons_of_mem _ (List.mem_filter.mpr ⟨h2, ?_⟩))
    have h3 : ¬ (j + 1 = i ∧ w.category = 2) := by
      rintro ⟨h4, h5⟩
      subst h4
      exact okS_ne ho hj h5
    simp only [Bool.and_eq_true, Bool.not_eq_true', beq_eq_false_iff_ne, ne_eq, hji, not_false_eq_true, true_and, Bool.and_eq_false_iff]
    by_cases h4 : j + 1 = i
    · exact Or.inr (fun h5 => h3 ⟨h4, h5⟩)
    · exact Or.inl h4
theorem lh.set2 {ls' : Array Slot} {nL : Nat} {L : List (Option Value)} {i : Nat} {v : Value} (ho : okS L i = true) (h : lv_has ls' nL ((i, v) :: (al 0 L).filter (fun q => !(q.1 == i) && (!(q.1 == i + 1) && !(q.1 + 1 == i && q.2.category == 2))))) : lh ls' nL ((L.set i (some v)).set (i + 1) none) := by
  refine ⟨h.1, h.2.1, fun j w hj => ?_⟩
  by_cases hj1 : j = i + 1
  · subst hj1
    rw [List.getElem?_set] at hj
    simp only [if_true] at hj
    split at hj <;> cases hj
  · rw [List.getElem?_set_ne (Ne.symm hj1)] at hj
    by_cases hji : j = i
    · subst hji
      rw [List.getElem?_set] at hj
      simp only [if_true] at hj
      split at hj
      · simp only [Option.some.injEq] at hj
        subst hj
        exact h.2.2 (j, v) List.mem_cons_self
      · cases hj
    · rw [List.getElem?_set_ne (Ne.symm hji)] at hj
      have h2 := al_of L 0 j w hj
      rw [Nat.zero_add] at h2
      refine h.2.2 (j, w) (List.mem_cons_of_mem _ (List.mem_filter.mpr ⟨h2, ?_⟩))
      have h3 : ¬ (j + 1 = i ∧ w.category = 2) := by
        rintro ⟨h4, h5⟩
        subst h4
        exact okS_ne ho hj h5
      simp only [Bool.and_eq_true, Bool.not_eq_true', beq_eq_false_iff_ne, ne_eq, hji, hj1, not_false_eq_true, true_and, Bool.and_eq_false_iff]
      by_cases h4 : j + 1 = i
      · exact Or.inr (fun h5 => h3 ⟨h4, h5⟩)
      · exact Or.inl h4
theorem ofInt_nI (n : Nat) : Int32.ofInt (n : Int) = nI n := Int32.ofInt_eq_ofNat
theorem cst8 : ∀ n : Nat, n < 128 → (Int8.ofInt (n : Int)).toInt32 = nI n := by decide +kernel
section ZR
variable {E : Ex} {κ : Kx} {cc : ByteArray} {nL : Nat} {own : String} {ret : Option FieldType} {d Rc Rs : Nat} {nm : String} {cells slots pc : Nat} {L : List (Option Value)} {st : List Value} {S : Sx} {im : Mem}
theorem z_iconst (C : Cx E κ cc nL own ret d Rc Rs nm) {n : Int} {v : Int32} (hd : decode cc pc = .ok (.iconst n, 1)) (hv : Int32.ofInt n = v) (kk : V E κ nL cells slots (pc + 1) L (.int v :: st) S im) : V E κ nL cells slots pc L st S im := fun H ls locs h1 h2 h3 => lv_iconst C.1 C.2.1 hd hv (kk H ls locs h1 h2 h3)
theorem z_iconstN (C : Cx E κ cc nL own ret d Rc Rs nm) (n : Nat) (hd : decode cc pc = .ok (.iconst (n : Int), 1)) (kk : V E κ nL cells slots (pc + 1) L (.int (nI n) :: st) S im) : V E κ nL cells slots pc L st S im := z_iconst C hd (ofInt_nI n) kk
theorem z_bipush (C : Cx E κ cc nL own ret d Rc Rs nm) {n : Int} {v : Int32} (hd : decode cc pc = .ok (.bipush n, 2)) (hv : (Int8.ofInt n).toInt32 = v) (kk : V E κ nL cells slots (pc + 2) L (.int v :: st) S im) : V E κ nL cells slots pc L st S im := fun H ls locs h1 h2 h3 => lv_bipush C.1 C.2.1 hd hv (kk H ls locs h1 h2 h3)
theorem z_bipushN (C : Cx E κ cc nL own ret d Rc Rs nm) (n : Nat) (hn : n < 128) (hd : decode cc pc = .ok (.bipush (n : Int), 2)) (kk : V E κ nL cells slots (pc + 2) L (.int (nI n) :: st) S im) : V E κ nL cells slots pc L st S im := z_bipush C hd (cst8 n hn) kk
theorem z_sipush (C : Cx E κ cc nL own ret d Rc Rs nm) {n : Int} {v : Int32} (hd : decode cc pc = .ok (.sipush n, 3)) (hv : (Int16.ofInt n).toInt32 = v) (kk : V E κ nL cells slots (pc + 3) L (.int v :: st) S im) : V E κ nL cells slots pc L st S im := fun H ls locs h1 h2 h3 => lv_sipush C.1 C.2.1 hd hv (kk H ls locs h1 h2 h3)
theorem z_lconst (C : Cx E κ cc nL own ret d Rc Rs nm) {n : Fin 2} {v : Int64} (hd : decode cc pc = .ok (.lconst n, 1)) (hv : Int64.ofNat (n : Nat) = v) (kk : V E κ nL cells slots (pc + 1) L (.long v :: st) S im) : V E κ nL cells slots pc L st S im := fun H ls locs h1 h2 h3 => lv_lconst C.1 C.2.1 hd hv (kk H ls locs h1 h2 h3)
theorem z_ldc (C : Cx E κ cc nL own ret d Rc Rs nm) {ix : Nat} {v : Int32} (hd : decode cc pc = .ok (.ldc ix, 2)) (hw : Cond.constant own ix v ∈ tb) (kk : V E κ nL cells slots (pc + 2) L (.int v :: st) S im) : V E κ nL cells slots pc L st S im := fun H ls locs h1 h2 h3 => lv_ldc C.1 C.2.1 C.2.2.2.1 (C.2.2.2.2.1 _ hw) hd (kk H ls locs h1 h2 h3)
theorem z_ldcw (C : Cx E κ cc nL own ret d Rc Rs nm) {ix : Nat} {v : Int32} (hd : decode cc pc = .ok (.ldc_w ix, 3)) (hw : Cond.constant own ix v ∈ tb) (kk : V E κ nL cells slots (pc + 3) L (.int v :: st) S im) : V E κ nL cells slots pc L st S im := fun H ls locs h1 h2 h3 => lv_ldcw C.1 C.2.1 C.2.2.2.1 (C.2.2.2.2.1 _ hw) hd (kk H ls locs h1 h2 h3)
theorem z_iload_n (C : Cx E κ cc nL own ret d Rc Rs nm) {k : Fin 4} {x : Int32} (hd : decode cc pc = .ok (.iload_n k, 1)) (hl : L[(k : Nat)]? = some (some (.int x))) (kk : V E κ nL cells slots (pc + 1) L (.int x :: st) S im) : V E κ nL cells slots pc L st S im := fun H ls locs h1 h2 h3 => lv_iload_n C.1 C.2.1 hd rfl (h1.2.2 _ _ hl) (kk H ls locs h1 h2 h3)
theorem z_iload (C : Cx E κ cc nL own ret d Rc Rs nm) {i : Nat} {x : Int32} (hd : decode cc pc = .ok (.iload i, 2)) (hl : L[i]? = some (some (.int x))) (kk : V E κ nL cells slots (pc + 2) L (.int x :: st) S im) : V E κ nL cells slots pc L st S im := fun H ls locs h1 h2 h3 => lv_iload C.1 C.2.1 hd (h1.2.2 _ _ hl) (kk H ls locs h1 h2 h3)
theorem z_lload (C : Cx E κ cc nL own ret d Rc Rs nm) {i : Nat} {x : Int64} (hd : decode cc pc = .ok (.lload i, 2)) (hl : L[i]? = some (some (.long x))) (kk : V E κ nL cells slots (pc + 2) L (.long x :: st) S im) : V E κ nL cells slots pc L st S im := fun H ls locs h1 h2 h3 => lv_lload C.1 C.2.1 hd (h1.2.2 _ _ hl) (kk H ls locs h1 h2 h3)
theorem z_aload_n (C : Cx E κ cc nL own ret d Rc Rs nm) {k : Fin 4} {x : Nat} (hd : decode cc pc = .ok (.aload_n k, 1)) (hl : L[(k : Nat)]? = some (some (.ref x))) (kk : V E κ nL cells slots (pc + 1) L (.ref x :: st) S im) : V E κ nL cells slots pc L st S im := fun H ls locs h1 h2 h3 => lv_aload_n C.1 C.2.1 hd rfl (h1.2.2 _ _ hl) (kk H ls locs h1 h2 h3)
theorem z_aload (C : Cx E κ cc nL own ret d Rc Rs nm) {i : Nat} {x : Nat} (hd : decode cc pc = .ok (.aload i, 2)) (hl : L[i]? = some (some (.ref x))) (kk : V E κ nL cells slots (pc + 2) L (.ref x :: st) S im) : V E κ nL cells slots pc L st S im := fun H ls locs h1 h2 h3 => lv_aload C.1 C.2.1 hd (h1.2.2 _ _ hl) (kk H ls locs h1 h2 h3)
theorem z_aload_nN (C : Cx E κ cc nL own ret d Rc Rs nm) {k : Fin 4} (hd : decode cc pc = .ok (.aload_n k, 1)) (hl : L[(k : Nat)]? = some (some .null)) (kk : V E κ nL cells slots (pc + 1) L (.null :: st) S im) : V E κ nL cells slots pc L st S im := fun H ls locs h1 h2 h3 => lv_aload_nN C.1 C.2.1 hd rfl (h1.2.2 _ _ hl) (kk H ls locs h1 h2 h3)
theorem z_istore_n (C : Cx E κ cc nL own ret d Rc Rs nm) {k : Fin 4} {x : Int32} (hd : decode cc pc = .ok (.istore_n k, 1)) (hk : (k : Nat) < nL) (ho : okS L k = true) (kk : V E κ nL cells slots (pc + 1) (L.set k (some (.int x))) st S im) : V E κ nL cells slots pc L (.int x :: st) S im := fun H ls locs h1 h2 h3 => lv_istore_n C.1 C.2.1 hd rfl h1.has hk rfl (fun ls' h4 => kk H ls' locs (lh.set1 ho h4) h2 h3)
theorem z_istore (C : Cx E κ cc nL own ret d Rc Rs nm) {i : Nat} {x : Int32} (hd : decode cc pc = .ok (.istore i, 2)) (hk : i < nL) (ho : okS L i = true) (kk : V E κ nL cells slots (pc + 2) (L.set i (some (.int x))) st S im) : V E κ nL cells slots pc L (.int x :: st) S im := fun H ls locs h1 h2 h3 => lv_istore C.1 C.2.1 hd h1.has hk rfl (fun ls' h4 => kk H ls' locs (lh.set1 ho h4) h2 h3)
theorem z_lstore (C : Cx E κ cc nL own ret d Rc Rs nm) {i : Nat} {x : Int64} (hd : decode cc pc = .ok (.lstore i, 2)) (hk : i + 1 < nL) (ho : okS L i = true) (kk : V E κ nL cells slots (pc + 2) ((L.set i (some (.long x))).set (i + 1) none) st S im) : V E κ nL cells slots pc L (.long x :: st) S im := fun H ls locs h1 h2 h3 => lv_lstore C.1 C.2.1 hd h1.has hk rfl (fun ls' h4 => kk H ls' locs (lh.set2 ho h4) h2 h3)
theorem z_astore_n (C : Cx E κ cc nL own ret d Rc Rs nm) {k : Fin 4} {x : Nat} (hd : decode cc pc = .ok (.astore_n k, 1)) (hk : (k : Nat) < nL) (ho : okS L k = true) (kk : V E κ nL cells slots (pc + 1) (L.set k (some (.ref x))) st S im) : V E κ nL cells slots pc L (.ref x :: st) S im := fun H ls locs h1 h2 h3 => lv_astore_n C.1 C.2.1 hd rfl h1.has hk rfl (fun ls' h4 => kk H ls' locs (lh.set1 ho h4) h2 h3)
theorem z_astore (C : Cx E κ cc nL own ret d Rc Rs nm) {i : Nat} {x : Nat} (hd : decode cc pc = .ok (.astore i, 2)) (hk : i < nL) (ho : okS L i = true) (kk : V E κ nL cells slots (pc + 2) (L.set i (some (.ref x))) st S im) : V E κ nL cells slots pc L (.ref x :: st) S im := fun H ls locs h1 h2 h3 => lv_astore C.1 C.2.1 hd h1.has hk rfl (fun ls' h4 => kk H ls' locs (lh.set1 ho h4) h2 h3)
theorem z_astore_nN (C : Cx E κ cc nL own ret d Rc Rs nm) {k : Fin 4} (hd : decode cc pc = .ok (.astore_n k, 1)) (hk : (k : Nat) < nL) (ho : okS L k = true) (kk : V E κ nL cells slots (pc + 1) (L.set k (some .null)) st S im) : V E κ nL cells slots pc L (.null :: st) S im := fun H ls locs h1 h2 h3 => lv_astore_nN C.1 C.2.1 hd rfl h1.has hk rfl (fun ls' h4 => kk H ls' locs (lh.set1 ho h4) h2 h3)
theorem z_iinc (C : Cx E κ cc nL own ret d Rc Rs nm) {i : Nat} {n : Int} {x v : Int32} (hd : decode cc pc = .ok (.iinc i n, 3)) (hl : L[i]? = some (some (.int x))) (hv : x + Int32.ofInt n = v) (hk : i < nL) (ho : okS L i = true) (kk : V E κ nL cells slots (pc + 3) (L.set i (some (.int v))) st S im) : V E κ nL cells slots pc L st S im := fun H ls locs h1 h2 h3 => by
  have h5 := al_of L 0 i _ hl
  rw [Nat.zero_add] at h5
  obtain ⟨k, hk5⟩ := List.getElem?_of_mem h5
  exact lv_iinc (k := k) C.1 C.2.1 hd h1.has hk5 hv hk rfl (fun ls' h4 => kk H ls' locs (lh.set1 ho h4) h2 h3)
theorem z_iincN (C : Cx E κ cc nL own ret d Rc Rs nm) (n : Nat) {i x : Nat} (hd : decode cc pc = .ok (.iinc i (n : Int), 3)) (hl : L[i]? = some (some (.int (nI x)))) (hk : i < nL) (ho : okS L i = true) (kk : V E κ nL cells slots (pc + 3) (L.set i (some (.int (nI (x + n))))) st S im) : V E κ nL cells slots pc L st S im := z_iinc C hd hl (by rw [ofInt_nI, nI_add]) hk ho kk
theorem z_iadd (C : Cx E κ cc nL own ret d Rc Rs nm) {x y : Int32} (hd : decode cc pc = .ok (.iadd, 1)) (kk : V E κ nL cells slots (pc + 1) L (.int (x + y) :: st) S im) : V E κ nL cells slots pc L (.int y :: .int x :: st) S im := fun H ls locs h1 h2 h3 => lv_iadd C.1 C.2.1 hd (kk H ls locs h1 h2 h3)
theorem z_iaddN (C : Cx E κ cc nL own ret d Rc Rs nm) {x y : Nat} (hd : decode cc pc = .ok (.iadd, 1)) (kk : V E κ nL cells slots (pc + 1) L (.int (nI (x + y)) :: st) S im) : V E κ nL cells slots pc L (.int (nI y) :: .int (nI x) :: st) S im := z_iadd C hd (by rw [nI_add]; exact kk)
theorem z_isub (C : Cx E κ cc nL own ret d Rc Rs nm) {x y : Int32} (hd : decode cc pc = .ok (.isub, 1)) (kk : V E κ nL cells slots (pc + 1) L (.int (x - y) :: st) S im) : V E κ nL cells slots pc L (.int y :: .int x :: st) S im := fun H ls locs h1 h2 h3 => lv_isub C.1 C.2.1 hd (kk H ls locs h1 h2 h3)
theorem z_isubN (C : Cx E κ cc nL own ret d Rc Rs nm) {x y : Nat} (hd : decode cc pc = .ok (.isub, 1)) (hxy : y ≤ x) (kk : V E κ nL cells slots (pc + 1) L (.int (nI (x - y)) :: st) S im) : V E κ nL cells slots pc L (.int (nI y) :: .int (nI x) :: st) S im := z_isub C hd (by rw [pk_sub hxy]; exact kk)
theorem z_imul (C : Cx E κ cc nL own ret d Rc Rs nm) {x y : Int32} (hd : decode cc pc = .ok (.imul, 1)) (kk : V E κ nL cells slots (pc + 1) L (.int (x * y) :: st) S im) : V E κ nL cells slots pc L (.int y :: .int x :: st) S im := fun H ls locs h1 h2 h3 => lv_imul C.1 C.2.1 hd (kk H ls locs h1 h2 h3)
theorem z_imulN (C : Cx E κ cc nL own ret d Rc Rs nm) {x y : Nat} (hd : decode cc pc = .ok (.imul, 1)) (kk : V E κ nL cells slots (pc + 1) L (.int (nI (x * y)) :: st) S im) : V E κ nL cells slots pc L (.int (nI y) :: .int (nI x) :: st) S im := z_imul C hd (by rw [pk_mul]; exact kk)
theorem z_idiv (C : Cx E κ cc nL own ret d Rc Rs nm) {x y : Int32} (hd : decode cc pc = .ok (.idiv, 1)) (hne : ¬ y = 0) (kk : V E κ nL cells slots (pc + 1) L (.int (x / y) :: st) S im) : V E κ nL cells slots pc L (.int y :: .int x :: st) S im := fun H ls locs h1 h2 h3 => lv_idiv C.1 C.2.1 hd hne (kk H ls locs h1 h2 h3)
theorem z_irem (C : Cx E κ cc nL own ret d Rc Rs nm) {x y : Int32} (hd : decode cc pc = .ok (.irem, 1)) (hne : ¬ y = 0) (kk : V E κ nL cells slots (pc + 1) L (.int (x - x / y * y) :: st) S im) : V E κ nL cells slots pc L (.int y :: .int x :: st) S im := fun H ls locs h1 h2 h3 => lv_irem C.1 C.2.1 hd hne (kk H ls locs h1 h2 h3)
theorem z_ineg (C : Cx E κ cc nL own ret d Rc Rs nm) {x : Int32} (hd : decode cc pc = .ok (.ineg, 1)) (kk : V E κ nL cells slots (pc + 1) L (.int (0 - x) :: st) S im) : V E κ nL cells slots pc L (.int x :: st) S im := fun H ls locs h1 h2 h3 => lv_ineg C.1 C.2.1 hd (by first | exact kk H ls locs h1 h2 h3 | (have := kk H ls locs h1 h2 h3; simpa using this))
theorem z_iand (C : Cx E κ cc nL own ret d Rc Rs nm) {x y : Int32} (hd : decode cc pc = .ok (.iand, 1)) (kk : V E κ nL cells slots (pc + 1) L (.int (x &&& y) :: st) S im) : V E κ nL cells slots pc L (.int y :: .int x :: st) S im := fun H ls locs h1 h2 h3 => lv_iand C.1 C.2.1 hd (kk H ls locs h1 h2 h3)
theorem z_ior (C : Cx E κ cc nL own ret d Rc Rs nm) {x y : Int32} (hd : decode cc pc = .ok (.ior, 1)) (kk : V E κ nL cells slots (pc + 1) L (.int (x ||| y) :: st) S im) : V E κ nL cells slots pc L (.int y :: .int x :: st) S im := fun H ls locs h1 h2 h3 => lv_ior C.1 C.2.1 hd (kk H ls locs h1 h2 h3)
theorem z_ishl (C : Cx E κ cc nL own ret d Rc Rs nm) {x y : Int32} (hd : decode cc pc = .ok (.ishl, 1)) (kk : V E κ nL cells slots (pc + 1) L (.int (x <<< (y &&& 31)) :: st) S im) : V E κ nL cells slots pc L (.int y :: .int x :: st) S im := fun H ls locs h1 h2 h3 => lv_ishl C.1 C.2.1 hd (kk H ls locs h1 h2 h3)
theorem z_ishr (C : Cx E κ cc nL own ret d Rc Rs nm) {x y : Int32} (hd : decode cc pc = .ok (.ishr, 1)) (kk : V E κ nL cells slots (pc + 1) L (.int (x >>> (y &&& 31)) :: st) S im) : V E κ nL cells slots pc L (.int y :: .int x :: st) S im := fun H ls locs h1 h2 h3 => lv_ishr C.1 C.2.1 hd (kk H ls locs h1 h2 h3)
theorem z_iushr (C : Cx E κ cc nL own ret d Rc Rs nm) {x y : Int32} (hd : decode cc pc = .ok (.iushr, 1)) (kk : V E κ nL cells slots (pc + 1) L (.int (x.toUInt32 >>> (y.toUInt32 &&& Int32.toUInt32 31)).toInt32 :: st) S im) : V E κ nL cells slots pc L (.int y :: .int x :: st) S im := fun H ls locs h1 h2 h3 => lv_iushr C.1 C.2.1 hd rfl (kk H ls locs h1 h2 h3)
theorem z_i2s (C : Cx E κ cc nL own ret d Rc Rs nm) {x : Int32} (hd : decode cc pc = .ok (.i2s, 1)) (kk : V E κ nL cells slots (pc + 1) L (.int x.toInt16.toInt32 :: st) S im) : V E κ nL cells slots pc L (.int x :: st) S im := fun H ls locs h1 h2 h3 => lv_i2s C.1 C.2.1 hd rfl (kk H ls locs h1 h2 h3)
theorem z_i2c (C : Cx E κ cc nL own ret d Rc Rs nm) {x : Int32} (hd : decode cc pc = .ok (.i2c, 1)) (kk : V E κ nL cells slots (pc + 1) L (.int (x.toUInt32 % 65536).toInt32 :: st) S im) : V E κ nL cells slots pc L (.int x :: st) S im := fun H ls locs h1 h2 h3 => lv_i2c C.1 C.2.1 hd rfl (kk H ls locs h1 h2 h3)
theorem z_i2b (C : Cx E κ cc nL own ret d Rc Rs nm) {x : Int32} (hd : decode cc pc = .ok (.i2b, 1)) (kk : V E κ nL cells slots (pc + 1) L (.int x.toInt8.toInt32 :: st) S im) : V E κ nL cells slots pc L (.int x :: st) S im := fun H ls locs h1 h2 h3 => lv_i2b C.1 C.2.1 hd rfl (kk H ls locs h1 h2 h3)
theorem z_i2l (C : Cx E κ cc nL own ret d Rc Rs nm) {x : Int32} (hd : decode cc pc = .ok (.i2l, 1)) (kk : V E κ nL cells slots (pc + 1) L (.long x.toInt64 :: st) S im) : V E κ nL cells slots pc L (.int x :: st) S im := fun H ls locs h1 h2 h3 => lv_i2l C.1 C.2.1 hd rfl (kk H ls locs h1 h2 h3)
theorem z_l2i (C : Cx E κ cc nL own ret d Rc Rs nm) {x : Int64} (hd : decode cc pc = .ok (.l2i, 1)) (kk : V E κ nL cells slots (pc + 1) L (.int x.toInt32 :: st) S im) : V E κ nL cells slots pc L (.long x :: st) S im := fun H ls locs h1 h2 h3 => lv_l2i C.1 C.2.1 hd rfl (kk H ls locs h1 h2 h3)
theorem z_ladd (C : Cx E κ cc nL own ret d Rc Rs nm) {x y : Int64} (hd : decode cc pc = .ok (.ladd, 1)) (kk : V E κ nL cells slots (pc + 1) L (.long (x + y) :: st) S im) : V E κ nL cells slots pc L (.long y :: .long x :: st) S im := fun H ls locs h1 h2 h3 => lv_ladd C.1 C.2.1 hd (kk H ls locs h1 h2 h3)
theorem z_lsub (C : Cx E κ cc nL own ret d Rc Rs nm) {x y : Int64} (hd : decode cc pc = .ok (.lsub, 1)) (kk : V E κ nL cells slots (pc + 1) L (.long (x - y) :: st) S im) : V E κ nL cells slots pc L (.long y :: .long x :: st) S im := fun H ls locs h1 h2 h3 => lv_lsub C.1 C.2.1 hd (kk H ls locs h1 h2 h3)
theorem z_dup (C : Cx E κ cc nL own ret d Rc Rs nm) {v : Value} (hd : decode cc pc = .ok (.dup, 1)) (hc : v.category = 1) (kk : V E κ nL cells slots (pc + 1) L (v :: v :: st) S im) : V E κ nL cells slots pc L (v :: st) S im := fun H ls locs h1 h2 h3 => lv_dup C.1 C.2.1 hd hc (kk H ls locs h1 h2 h3)
theorem z_dup2 (C : Cx E κ cc nL own ret d Rc Rs nm) {v w : Value} (hd : decode cc pc = .ok (.dup2, 1)) (hv : v.category = 1) (hw : w.category = 1) (kk : V E κ nL cells slots (pc + 1) L (v :: w :: v :: w :: st) S im) : V E κ nL cells slots pc L (v :: w :: st) S im := fun H ls locs h1 h2 h3 => lv_dup2_11 C.1 C.2.1 hd hv hw (kk H ls locs h1 h2 h3)
theorem z_pop (C : Cx E κ cc nL own ret d Rc Rs nm) {v : Value} (hd : decode cc pc = .ok (.pop, 1)) (hc : v.category = 1) (kk : V E κ nL cells slots (pc + 1) L st S im) : V E κ nL cells slots pc L (v :: st) S im := fun H ls locs h1 h2 h3 => lv_pop C.1 C.2.1 hd hc (kk H ls locs h1 h2 h3)
theorem z_goto (C : Cx E κ cc nL own ret d Rc Rs nm) (tgt : Nat) {off : Int} (hd : decode cc pc = .ok (.goto off, 3)) (ht : (pc : Int) + off = (tgt : Int)) (kk : V E κ nL cells slots tgt L st S im) : V E κ nL cells slots pc L st S im := fun H ls locs h1 h2 h3 => lv_goto C.1 C.2.1 hd ht (kk H ls locs h1 h2 h3)
theorem z_if_eq (C : Cx E κ cc nL own ret d Rc Rs nm) (tgt : Nat) {off : Int} {x : Int32} (hd : decode cc pc = .ok (.ifCond .eq off, 3)) (ht : (pc : Int) + off = (tgt : Int)) (kt : x = 0 → V E κ nL cells slots tgt L st S im) (kf : ¬ x = 0 → V E κ nL cells slots (pc + 3) L st S im) : V E κ nL cells slots pc L (.int x :: st) S im := fun H ls locs h1 h2 h3 => lv_if_eq C.1 C.2.1 hd ht (fun h => kt h H ls locs h1 h2 h3) (fun h => kf h H ls locs h1 h2 h3)
theorem z_if_ne (C : Cx E κ cc nL own ret d Rc Rs nm) (tgt : Nat) {off : Int} {x : Int32} (hd : decode cc pc = .ok (.ifCond .ne off, 3)) (ht : (pc : Int) + off = (tgt : Int)) (kt : ¬ x = 0 → V E κ nL cells slots tgt L st S im) (kf : x = 0 → V E κ nL cells slots (pc + 3) L st S im) : V E κ nL cells slots pc L (.int x :: st) S im := fun H ls locs h1 h2 h3 => lv_if_ne C.1 C.2.1 hd ht (fun h => kt h H ls locs h1 h2 h3) (fun h => kf h H ls locs h1 h2 h3)
theorem z_if_lt (C : Cx E κ cc nL own ret d Rc Rs nm) (tgt : Nat) {off : Int} {x : Int32} (hd : decode cc pc = .ok (.ifCond .lt off, 3)) (ht : (pc : Int) + off = (tgt : Int)) (kt : x < 0 → V E κ nL cells slots tgt L st S im) (kf : ¬ x < 0 → V E κ nL cells slots (pc + 3) L st S im) : V E κ nL cells slots pc L (.int x :: st) S im := fun H ls locs h1 h2 h3 => lv_if_lt C.1 C.2.1 hd ht (fun h => kt h H ls locs h1 h2 h3) (fun h => kf h H ls locs h1 h2 h3)
theorem z_if_ge (C : Cx E κ cc nL own ret d Rc Rs nm) (tgt : Nat) {off : Int} {x : Int32} (hd : decode cc pc = .ok (.ifCond .ge off, 3)) (ht : (pc : Int) + off = (tgt : Int)) (kt : 0 ≤ x → V E κ nL cells slots tgt L st S im) (kf : ¬ 0 ≤ x → V E κ nL cells slots (pc + 3) L st S im) : V E κ nL cells slots pc L (.int x :: st) S im := fun H ls locs h1 h2 h3 => lv_if_ge C.1 C.2.1 hd ht (fun h => kt h H ls locs h1 h2 h3) (fun h => kf h H ls locs h1 h2 h3)
theorem z_if_gt (C : Cx E κ cc nL own ret d Rc Rs nm) (tgt : Nat) {off : Int} {x : Int32} (hd : decode cc pc = .ok (.ifCond .gt off, 3)) (ht : (pc : Int) + off = (tgt : Int)) (kt : 0 < x → V E κ nL cells slots tgt L st S im) (kf : ¬ 0 < x → V E κ nL cells slots (pc + 3) L st S im) : V E κ nL cells slots pc L (.int x :: st) S im := fun H ls locs h1 h2 h3 => lv_if_gt C.1 C.2.1 hd ht (fun h => kt h H ls locs h1 h2 h3) (fun h => kf h H ls locs h1 h2 h3)
theorem z_if_le (C : Cx E κ cc nL own ret d Rc Rs nm) (tgt : Nat) {off : Int} {x : Int32} (hd : decode cc pc = .ok (.ifCond .le off, 3)) (ht : (pc : Int) + off = (tgt : Int)) (kt : x ≤ 0 → V E κ nL cells slots tgt L st S im) (kf : ¬ x ≤ 0 → V E κ nL cells slots (pc + 3) L st S im) : V E κ nL cells slots pc L (.int x :: st) S im := fun H ls locs h1 h2 h3 => lv_if_le C.1 C.2.1 hd ht (fun h => kt h H ls locs h1 h2 h3) (fun h => kf h H ls locs h1 h2 h3)
theorem z_icmp_eq (C : Cx E κ cc nL own ret d Rc Rs nm) (tgt : Nat) {off : Int} {x y : Int32} (hd : decode cc pc = .ok (.if_icmp .eq off, 3)) (ht : (pc : Int) + off = (tgt : Int)) (kt : x = y → V E κ nL cells slots tgt L st S im) (kf : ¬ x = y → V E κ nL cells slots (pc + 3) L st S im) : V E κ nL cells slots pc L (.int y :: .int x :: st) S im := fun H ls locs h1 h2 h3 => lv_icmp_eq C.1 C.2.1 hd ht (fun h => kt h H ls locs h1 h2 h3) (fun h => kf h H ls locs h1 h2 h3)
theorem z_icmp_ne (C : Cx E κ cc nL own ret d Rc Rs nm) (tgt : Nat) {off : Int} {x y : Int32} (hd : decode cc pc = .ok (.if_icmp .ne off, 3)) (ht : (pc : Int) + off = (tgt : Int)) (kt : ¬ x = y → V E κ nL cells slots tgt L st S im) (kf : x = y → V E κ nL cells slots (pc + 3) L st S im) : V E κ nL cells slots pc L (.int y :: .int x :: st) S im := fun H ls locs h1 h2 h3 => lv_icmp_ne C.1 C.2.1 hd ht (fun h => kt h H ls locs h1 h2 h3) (fun h => kf h H ls locs h1 h2 h3)
theorem z_icmp_lt (C : Cx E κ cc nL own ret d Rc Rs nm) (tgt : Nat) {off : Int} {x y : Int32} (hd : decode cc pc = .ok (.if_icmp .lt off, 3)) (ht : (pc : Int) + off = (tgt : Int)) (kt : x < y → V E κ nL cells slots tgt L st S im) (kf : ¬ x < y → V E κ nL cells slots (pc + 3) L st S im) : V E κ nL cells slots pc L (.int y :: .int x :: st) S im := fun H ls locs h1 h2 h3 => lv_icmp_lt C.1 C.2.1 hd ht (fun h => kt h H ls locs h1 h2 h3) (fun h => kf h H ls locs h1 h2 h3)
theorem z_icmp_ge (C : Cx E κ cc nL own ret d Rc Rs nm) (tgt : Nat) {off : Int} {x y : Int32} (hd : decode cc pc = .ok (.if_icmp .ge off, 3)) (ht : (pc : Int) + off = (tgt : Int)) (kt : y ≤ x → V E κ nL cells slots tgt L st S im) (kf : ¬ y ≤ x → V E κ nL cells slots (pc + 3) L st S im) : V E κ nL cells slots pc L (.int y :: .int x :: st) S im := fun H ls locs h1 h2 h3 => lv_icmp_ge C.1 C.2.1 hd ht (fun h => kt h H ls locs h1 h2 h3) (fun h => kf h H ls locs h1 h2 h3)
theorem z_icmp_gt (C : Cx E κ cc nL own ret d Rc Rs nm) (tgt : Nat) {off : Int} {x y : Int32} (hd : decode cc pc = .ok (.if_icmp .gt off, 3)) (ht : (pc : Int) + off = (tgt : Int)) (kt : y < x → V E κ nL cells slots tgt L st S im) (kf : ¬ y < x → V E κ nL cells slots (pc + 3) L st S im) : V E κ nL cells slots pc L (.int y :: .int x :: st) S im := fun H ls locs h1 h2 h3 => lv_icmp_gt C.1 C.2.1 hd ht (fun h => kt h H ls locs h1 h2 h3) (fun h => kf h H ls locs h1 h2 h3)
theorem z_icmp_le (C : Cx E κ cc nL own ret d Rc Rs nm) (tgt : Nat) {off : Int} {x y : Int32} (hd : decode cc pc = .ok (.if_icmp .le off, 3)) (ht : (pc : Int) + off = (tgt : Int)) (kt : x ≤ y → V E κ nL cells slots tgt L st S im) (kf : ¬ x ≤ y → V E κ nL cells slots (pc + 3) L st S im) : V E κ nL cells slots pc L (.int y :: .int x :: st) S im := fun H ls locs h1 h2 h3 => lv_icmp_le C.1 C.2.1 hd ht (fun h => kt h H ls locs h1 h2 h3) (fun h => kf h H ls locs h1 h2 h3)
theorem z_ifnonnull (C : Cx E κ cc nL own ret d Rc Rs nm) (tgt : Nat) {off : Int} {x : Nat} (hd : decode cc pc = .ok (.ifnonnull off, 3)) (ht : (pc : Int) + off = (tgt : Int)) (kk : V E κ nL cells slots tgt L st S im) : V E κ nL cells slots pc L (.ref x :: st) S im := fun H ls locs h1 h2 h3 => lv_ifnonnull C.1 C.2.1 hd ht (kk H ls locs h1 h2 h3)
theorem z_ifnonnullN (C : Cx E κ cc nL own ret d Rc Rs nm) {off : Int} (hd : decode cc pc = .ok (.ifnonnull off, 3)) (kk : V E κ nL cells slots (pc + 3) L st S im) : V E κ nL cells slots pc L (.null :: st) S im := fun H ls locs h1 h2 h3 => lv_ifnonnullN C.1 C.2.1 hd (kk H ls locs h1 h2 h3)
theorem z_null (C : Cx E κ cc nL own ret d Rc Rs nm) (hd : decode cc pc = .ok (.aconst_null, 1)) (kk : V E κ nL cells slots (pc + 1) L (.null :: st) S im) : V E κ nL cells slots pc L st S im := fun H ls locs h1 h2 h3 => lv_null C.1 C.2.1 hd (kk H ls locs h1 h2 h3)
theorem z_tableOut (C : Cx E κ cc nL own ret d Rc Rs nm) (tgt : Nat) {dflt lo hi : Int} {offs : Array Int} {len : Nat} {x : Int32} (hd : decode cc pc = .ok (.tableswitch dflt lo hi offs, len)) (h : x.toInt < lo ∨ hi < x.toInt) (ht : (pc : Int) + dflt = (tgt : Int)) (kk : V E κ nL cells slots tgt L st S im) : V E κ nL cells slots pc L (.int x :: st) S im := fun H ls locs h1 h2 h3 => lv_tableOut C.1 C.2.1 hd h ht (kk H ls locs h1 h2 h3)
theorem z_tableIn (C : Cx E κ cc nL own ret d Rc Rs nm) (tgt : Nat) {dflt lo hi off : Int} {offs : Array Int} {len : Nat} {x : Int32} (hd : decode cc pc = .ok (.tableswitch dflt lo hi offs, len)) (g1 : ¬ x.toInt < lo) (g2 : ¬ hi < x.toInt) (ho : offs[(x.toInt - lo).toNat]? = some off) (ht : (pc : Int) + off = (tgt : Int)) (kk : V E κ nL cells slots tgt L st S im) : V E κ nL cells slots pc L (.int x :: st) S im := fun H ls locs h1 h2 h3 => lv_tableIn C.1 C.2.1 hd g1 g2 ho ht (kk H ls locs h1 h2 h3)
theorem z_lookup (C : Cx E κ cc nL own ret d Rc Rs nm) (tgt : Nat) {dflt off : Int} {ps : Array (Int × Int)} {len : Nat} {x : Int32} (hd : decode cc pc = .ok (.lookupswitch dflt ps, len)) (hp : (ps.toList.zip (ps.toList.drop 1)).all (fun (a, next) => a.1 < next.1) = true) (ho : Op.lookupswitch.offset ps.toList dflt x.toInt = off) (ht : (pc : Int) + off = (tgt : Int)) (kk : V E κ nL cells slots tgt L st S im) : V E κ nL cells slots pc L (.int x :: st) S im := fun H ls locs h1 h2 h3 => lv_lookup C.1 C.2.1 hd hp ho ht (kk H ls locs h1 h2 h3)
theorem z_topi {x : Int32} (kk : ∀ y : Int32, y = x → V E κ nL cells slots pc L (.int y :: st) S im) : V E κ nL cells slots pc L (.int x :: st) S im := kk x rfl
theorem z_eqi {x y : Int32} (h : x = y) (kk : V E κ nL cells slots pc L (.int y :: st) S im) : V E κ nL cells slots pc L (.int x :: st) S im := h ▸ kk
theorem z_widen {c1 s1 : Nat} (hc : cells ≤ c1) (hs : slots ≤ s1) (kk : V E κ nL c1 s1 pc L st S im) : V E κ nL cells slots pc L st S im := fun H ls locs h1 h2 h3 => W.widen hc hs (kk H ls locs h1 h2 h3)
/-! returns -/
variable {mc ms : Nat} {post : Option Value → Sx → Mem → Prop}
theorem z_iret (C : Cx E κ cc nL own (some .int) d Rc Rs nm) (ρ : Rt E κ mc ms post) {v : Int32} (hd : decode cc pc = .ok (.ireturn, 1)) (hp : post (some (.int v)) S im) : V E κ nL mc ms pc L [.int v] S im := fun H ls locs h1 h2 h3 => by
  unfold kW; rw [ρ]
  exact W.iret C.1 C.2.1 C.2.2.2.2.2.1 (fun t ht hW => ⟨_, S, im, rfl, hp, by rw [ht]; exact h2, C.2.2.2.2.2.2.2.2.1.warm hW⟩) h3 hd C.2.2.2.2.2.2.1
theorem z_zret (C : Cx E κ cc nL own (some .boolean) d Rc Rs nm) (ρ : Rt E κ mc ms post) {v : Int32} (hd : decode cc pc = .ok (.ireturn, 1)) (hv : v = 0 ∨ v = 1) (hp : post (some (.int v)) S im) : V E κ nL mc ms pc L [.int v] S im := fun H ls locs h1 h2 h3 => by
  unfold kW; rw [ρ]
  exact W.zret C.1 C.2.1 C.2.2.2.2.2.1 (by rcases hv with rfl | rfl <;> decide) (fun t ht hW => ⟨_, S, im, rfl, hp, by rw [ht]; exact h2, C.2.2.2.2.2.2.2.2.1.warm hW⟩) h3 hd C.2.2.2.2.2.2.1
theorem z_cret (C : Cx E κ cc nL own (some .char) d Rc Rs nm) (ρ : Rt E κ mc ms post) {v : Int32} (hd : decode cc pc = .ok (.ireturn, 1)) (hv : narrow .char (.int v) = .int v) (hp : post (some (.int v)) S im) : V E κ nL mc ms pc L [.int v] S im := fun H ls locs h1 h2 h3 => by
  unfold kW; rw [ρ]
  exact W.zret C.1 C.2.1 C.2.2.2.2.2.1 hv (fun t ht hW => ⟨_, S, im, rfl, hp, by rw [ht]; exact h2, C.2.2.2.2.2.2.2.2.1.warm hW⟩) h3 hd C.2.2.2.2.2.2.1
theorem z_bret (C : Cx E κ cc nL own (some .byte) d Rc Rs nm) (ρ : Rt E κ mc ms post) {v : Int32} (hd : decode cc pc = .ok (.ireturn, 1)) (hv : narrow .byte (.int v) = .int v) (hp : post (some (.int v)) S im) : V E κ nL mc ms pc L [.int v] S im := fun H ls locs h1 h2 h3 => by
  unfold kW; rw [ρ]
  exact W.zret C.1 C.2.1 C.2.2.2.2.2.1 hv (fun t ht hW => ⟨_, S, im, rfl, hp, by rw [ht]; exact h2, C.2.2.2.2.2.2.2.2.1.warm hW⟩) h3 hd C.2.2.2.2.2.2.1
theorem z_lret (C : Cx E κ cc nL own (some .long) d Rc Rs nm) (ρ : Rt E κ mc ms post) {v : Int64} (hd : decode cc pc = .ok (.lreturn, 1)) (hp : post (some (.long v)) S im) : V E κ nL mc ms pc L [.long v] S im := fun H ls locs h1 h2 h3 => by
  unfold kW; rw [ρ]
  exact W.lret C.1 C.2.1 C.2.2.2.2.2.1 (fun t ht hW => ⟨_, S, im, rfl, hp, by rw [ht]; exact h2, C.2.2.2.2.2.2.2.2.1.warm hW⟩) h3 hd C.2.2.2.2.2.2.1
theorem z_vret (C : Cx E κ cc nL own none d Rc Rs nm) (ρ : Rt E κ mc ms post) (hd : decode cc pc = .ok (.return_, 1)) (hp : post none S im) : V E κ nL mc ms pc L [] S im := fun H ls locs h1 h2 h3 => by
  unfold kW; rw [ρ]
  exact W.vret C.1 C.2.1 C.2.2.2.2.2.1 (fun t ht hW => ⟨_, S, im, rfl, hp, by rw [ht]; exact h2, C.2.2.2.2.2.2.2.2.1.warm hW⟩) h3 hd C.2.2.2.2.2.2.1
theorem z_aret {cl : String} (C : Cx E κ cc nL own (some (.object cl)) d Rc Rs nm) (ρ : Rt E κ mc ms post) {v : Value} (hv : v = .null ∨ ∃ a, v = .ref a) (hd : decode cc pc = .ok (.areturn, 1)) (hp : post (some v) S im) : V E κ nL mc ms pc L [v] S im := fun H ls locs h1 h2 h3 => by
  unfold kW; rw [ρ]
  exact W.aret C.1 C.2.1 C.2.2.2.2.2.1 (Or.inl ⟨_, rfl⟩) hv (fun t ht hW => ⟨_, S, im, rfl, hp, by rw [ht]; exact h2, C.2.2.2.2.2.2.2.2.1.warm hW⟩) h3 hd C.2.2.2.2.2.2.1
end ZR
