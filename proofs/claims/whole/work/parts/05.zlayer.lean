/-! THE FLAT HEAP: what lies from the base on is told by four functions: the kind of each address (0 .. 7 the classes of vwCl, 8 int[], 9 boolean[], 10 char[], 11 .. 14 arrays of Lamp, Sheet, Slot, Text; 15 and above: nothing of ours), an array's length, the ints and the references of each cell by their places -/
abbrev Ex : Type := va_G × Nat × Heap × (Nat → ClassId) × (Nat → Nat) × (Nat → Nat) × Nat
abbrev Mem : Type := Nat → Nat → Int32
abbrev Rem : Type := Nat → Nat → Option Nat
abbrev Sx : Type := Nat × (Nat → Nat) × (Nat → Nat) × Rem
def fls (c : Nat) (i : Nat → Int32) (r : Nat → Option Nat) : List Value := match c with
  | 0 => [.int (i 0), .int (i 1), .int (i 2), .int (i 3), .int (i 4), .int (i 5), .int (i 6)]
  | 1 => [.int (i 0), .int (i 1), va_rf (r 2)]
  | 2 => [.int (i 0), va_rf (r 1), va_rf (r 2), .int (i 3)]
  | 3 => [va_rf (r 0), .int (i 1), va_rf (r 2), .int (i 3), .int (i 4), .int (i 5), .int (i 6), .int (i 7), .int (i 8), va_rf (r 9), .int (i 10), va_rf (r 11)]
  | 4 => [.int (i 0), .int (i 1), va_rf (r 2), va_rf (r 3)]
  | 5 => [va_rf (r 0), .int (i 1), .int (i 2), .int (i 3), .int (i 4), .int (i 5), .int (i 6), va_rf (r 7), .int (i 8)]
  | 6 => [va_rf (r 0), va_rf (r 1), va_rf (r 2), .int (i 3), va_rf (r 4), va_rf (r 5), va_rf (r 6), va_rf (r 7), .int (i 8), va_rf (r 9)]
  | _ => [va_rf (r 0), va_rf (r 1), va_rf (r 2), .int (i 3), .int (i 4), va_rf (r 5), va_rf (r 6), va_rf (r 7), va_rf (r 8), va_rf (r 9), va_rf (r 10), .int (i 11), .int (i 12), .int (i 13), .int (i 14), .int (i 15), .int (i 16), .int (i 17), va_rf (r 18), va_rf (r 19), va_rf (r 20), .int (i 21), .int (i 22), va_rf (r 23), .int (i 24), va_rf (r 25), va_rf (r 26), va_rf (r 27), va_rf (r 28), va_rf (r 29), va_rf (r 30), va_rf (r 31), va_rf (r 32), va_rf (r 33), va_rf (r 34), va_rf (r 35), va_rf (r 36), .int (i 37)]
/-- what a cell holds -/
def cel (E : Ex) (S : Sx) (im : Mem) (q : Nat) : va_E :=
  if S.2.1 q < 8 then .inr (S.2.1 q, fls (S.2.1 q) (im q) (S.2.2.2 q))
  else if S.2.1 q < 11 then .inl (E.2.2.2.1 (S.2.1 q - 8), S.2.2.1 q, .inl (im q))
  else .inl (E.2.2.2.1 (S.2.1 q - 8), S.2.2.1 q, .inr (.inr (.inr (.inr (S.2.2.2 q)))))
def tys (E : Ex) : List (ClassId × FieldType) := [(E.2.2.2.1 0, .int), (E.2.2.2.1 1, .boolean), (E.2.2.2.1 2, .char), (E.2.2.2.1 3, .object RX0), (E.2.2.2.1 4, .object RX1), (E.2.2.2.1 5, .object RX2), (E.2.2.2.1 6, .object RX4)]
/-- the heap: nothing below the base has changed, above it all is as the four functions say -/
def hG (E : Ex) (S : Sx) (im : Mem) (H : Heap) : Prop := H.size = S.1 ∧ E.2.1 ≤ S.1 ∧ (∀ q : Nat, q < E.2.1 → H[q]? = E.2.2.1[q]?) ∧ ∀ q : Nat, S.2.1 q < 15 → E.2.1 ≤ q ∧ va_at E.1 vwCl (q, cel E S im q) H
def nwd : List (String × Nat × MethodName) := [(RX3, 38, yX0_init), (RX6, 24, yX5_init), (RX6, 48, yX1_init), (RX6, 49, yX2_init), (RX2, 9, yX0_init), (RX2, 18, yX1_init), (RX3, 152, yX6_held)]
def lenS : List Nat := [4, 3, 4, 3, 2, 2]
def bytS : List (List Int32) := [[98, 117, 114, 110], [102, 101, 101], [102, 105, 110, 101], [111, 119, 115], [110, 119], [112, 100]]
def strS : List (Nat × String) := [(66, "burn"), (72, "fee"), (74, "fine"), (117, "ows"), (119, "nw"), (121, "pd")]
def aos : List String := [RX0, RX1, RX2, RX4]
def bs (E : Ex) : Nat → Prop := fun q => E.2.1 ≤ q
/-- what stays of the tables, of the statics and of the texts of constants -/
def St (E : Ex) (U : State) : Prop := va_K E.1 vwCl (tys E) U ∧ ((∀ w ∈ nwd, va_Nw (.methodLinkNest w.1 w.2.1 w.2.2 RX6) U) ∧ ∀ c ∈ aos, va_AO c U) ∧
  (va_Z RX0 "ABOVE" "[I" (.ref E.2.2.2.2.2.2) (bs E) U E.2.2.1 ∧ va_T .int E.2.2.2.2.2.2 6 (fun j => .int (([-1, 0, 0, 1, 2, 0] : List Int32).getD j 0)) (bs E) U E.2.2.1) ∧
  (vk_S 6 lenS bytS E.2.2.2.2.1 E.2.2.2.2.2.1 (bs E) U E.2.2.1 ∧ ∀ (i : Nat) (x : Nat × String), strS[i]? = some x → vk_R RX5 x.1 x.2 (E.2.2.2.2.1 i) U) ∧
  va_Z "java/lang/String" "COMPACT_STRINGS" "Z" (.int 1) (bs E) U E.2.2.1 ∧ va_Zq "jdk/internal/util/Preconditions" "SIOOBE_FORMATTER" "Ljava/util/function/BiFunction;" (bs E) U E.2.2.1
theorem St.warm {E : Ex} {u U : State} (hW : u.WarmedH U.vm) (h : St E u) : St E U := by
  obtain ⟨h1, ⟨h2, h9⟩, ⟨h3, h4⟩, ⟨h5, h6⟩, h7, h8⟩ := h
  exact ⟨h1.moved hW.alike, ⟨fun w hw => (h2 w hw).warmM hW, fun c hc => (h9 c hc).moved hW.alike⟩, ⟨h3.moved hW.alike, h4.moved hW.alike⟩, ⟨h5.moved hW.alike, fun i x hx => (h6 i x hx).warm hW⟩, h7.moved hW.alike, h8.moved hW.alike⟩
theorem St.calls {E : Ex} {U : State} {g : JFrame} {mk : MethodId} {a : Array Value} (h : St E U) : St E (U.calling g mk a) := h.warm (State.WarmedH.refl U)
def Gd (E : Ex) (S : Sx) (im : Mem) (U : State) : Prop := hG E S im U.heap ∧ St E U
/-- the walk's frame -/
abbrev Kx := Program × Launch × Env × Room × State × MethodId × Array Value × List Frame × Method × Code × (State → Prop)
def kW (κ : Kx) (H : Heap) (locs : List Loc) (cells slots : Nat) (g : JFrame) : Prop := W κ.1 κ.2.1 κ.2.2.1 κ.2.2.2.1 κ.2.2.2.2.1 κ.2.2.2.2.2.1 κ.2.2.2.2.2.2.1 κ.2.2.2.2.2.2.2.1 κ.2.2.2.2.2.2.2.2.1 κ.2.2.2.2.2.2.2.2.2.1 H locs cells slots κ.2.2.2.2.2.2.2.2.2.2 g
/-- the locals -/
def lh (ls : Array Slot) (nL : Nat) (L : List (Option Value)) : Prop := ls.size = nL ∧ lv_wf ls ∧ ∀ (i : Nat) (v : Value), L[i]? = some (some v) → ls[i]? = some (.val v)
/-- a method's room, by the depth of what it calls -/
def rmv (d mc ms : Nat) : Room := { frames := d, cells := mc, slots := ms, locals := 64 * d }
def wsm (y : MethodName) (cc : ByteArray) (maxL : Nat) (ret : Option FieldType) : List Cond := .code y cc maxL ret :: tb
def qc (E : Ex) (post : Option Value → Sx → Mem → Prop) : Array Value → State → Outcome → State → Prop := fun _ _ o t => ∃ (r : Option Value) (S' : Sx) (im' : Mem), o = .returned r ∧ post r S' im' ∧ Gd E S' im' t
/-- A METHOD'S CONTRACT: at these arguments, over this heap, it returns, and 'post' holds of its answer and the heap -/
def Mt (l : Launch) (E : Ex) (y : MethodName) (cc : ByteArray) (maxL : Nat) (ret : Option FieldType) (d mc ms : Nat) (av : List Value) (S : Sx) (im : Mem) (post : Option Value → Sx → Mem → Prop) : Prop :=
  Met l y (wsm y cc maxL ret) (rmv d mc ms) (fun a U => a = av.toArray ∧ Gd E S im U) (qc E post) mc ms (bs E)
/-- what a walk has at hand -/
def Cx (E : Ex) (κ : Kx) (cc : ByteArray) (nL : Nat) (own : String) (ret : Option FieldType) (d Rc Rs : Nat) (nm : String) : Prop :=
  κ.1.tables.exec = Jvm.exec ∧ κ.2.2.2.2.2.2.2.2.2.1.code = cc ∧ κ.2.2.2.2.2.2.2.2.2.1.maxLocals = nL ∧ κ.2.2.2.2.1.vm.findClass own = some κ.2.2.2.2.2.1.cls ∧ (∀ w ∈ tb, w.before κ.2.2.2.2.2.2.1 κ.2.2.2.2.1 = true) ∧
  κ.2.2.2.2.2.2.2.2.1.sig.returnType = ret ∧ κ.2.2.2.2.2.2.2.2.1.locks = false ∧ (d ≤ κ.2.2.2.1.frames ∧ 64 * d ≤ κ.2.2.2.1.locals ∧ Rc ≤ κ.2.2.2.1.cells ∧ Rs ≤ κ.2.2.2.1.slots) ∧ St E κ.2.2.2.2.1 ∧ κ.2.2.2.2.2.2.2.2.1.name = nm
/-- what a walk is to end in -/
def Rt (E : Ex) (κ : Kx) (mc ms : Nat) (post : Option Value → Sx → Mem → Prop) : Prop := κ.2.2.2.2.2.2.2.2.2.2 = MQ κ.2.2.2.2.2.2.2.1 (qc E post) κ.2.2.2.2.2.2.1 κ.2.2.2.2.1 mc ms (bs E)
/-- THE WALK: from this place, with these locals and this stack, over this heap, the machine comes to its end -/
def V (E : Ex) (κ : Kx) (nL cells slots pc : Nat) (L : List (Option Value)) (st : List Value) (S : Sx) (im : Mem) : Prop :=
  ∀ (H : Heap) (ls : Array Slot) (locs : List Loc), lh ls nL L → hG E S im H → (∀ q ∈ locs, bs E q.base) → kW κ H locs cells slots (F0 κ.2.2.2.2.2.1 pc ls st)
theorem lh.entry {av : List Value} {n : Nat} (hc : av.all (fun v => v.category == 1) = true) (hn : av.length ≤ n) {ls : Array Slot} (h : lv_has ls n (lv_args 0 av)) : lh ls n (av.map some ++ List.replicate (n - av.length) none) := by
  have key : ∀ (av : List Value) (i : Nat), av.all (fun v => v.category == 1) = true → ∀ (j : Nat) (v : Value), av[j]? = some v → (i + j, v) ∈ lv_args i av := by
    intro av
    induction av with
    | nil => intro i _ j v h; simp at h
    | cons a l ih =>
      intro i hall j v h
      simp only [List.all_cons, Bool.and_eq_true, beq_iff_eq] at hall
      rw [lv_args, if_neg (by omega)]
      cases j with
      | zero => simp at h; rw [h]; exact List.mem_cons_self
      | succ j =>
        rw [List.getElem?_cons_succ] at h
        have := ih (i + 1) hall.2 j v h
        rw [show i + (j + 1) = i + 1 + j by omega]
        exact List.mem_cons_of_mem _ this
  refine ⟨h.1, h.2.1, fun i v hi => ?_⟩
  by_cases hl : i < av.length
  · rw [List.getElem?_append_left (by simpa using hl), List.getElem?_map] at hi
    cases hx : av[i]? with
    | none => rw [hx] at hi; simp at hi
    | some w =>
      rw [hx] at hi
      simp only [Option.map_some, Option.some.injEq] at hi
      subst hi
      have := key av 0 hc i w hx
      rw [Nat.zero_add] at this
      exact h.2.2 _ this
  · rw [List.getElem?_append_right (by simpa using Nat.not_lt.mp hl)] at hi
    have := List.mem_of_getElem? hi
    rw [List.mem_replicate] at this
    cases this.2
theorem Mt.of {l : Launch} {E : Ex} {y : MethodName} {cc : ByteArray} {maxL : Nat} {ret : Option FieldType} {d mc ms : Nat} {av : List Value} {S : Sx} {im : Mem} {post : Option Value → Sx → Mem → Prop} (hy : plainName y.cls = true) (hsl : lg_sl av = av.map Slot.val) (hc : av.all (fun v => v.category == 1) = true) (hn : av.length ≤ maxL)
    (body : ∀ κ : Kx, κ.2.1 = l → Cx E κ cc maxL y.cls ret d mc ms y.name → Rt E κ mc ms post → V E κ maxL 0 0 0 (av.map some ++ List.replicate (maxL - av.length) none) [] S im) : Mt l E y cc maxL ret d mc ms av S im post := by
  refine Met.ofW (cc := cc) (maxL := maxL) (ret := ret) hy rfl ?_
  intro p e s m args below meth c s₁ B hml hv
  obtain ⟨rfl, hG0, hSt⟩ := hv
  have hts0 := atoms_spec (ws := wsm y cc maxL ret) B.pre
  have hl := lv_entry av (n := maxL) (by rw [hsl, List.length_map]; exact hn)
  rw [lg_entry_eq]
  have hb := body (p, l, e, (headSpec (wsm y cc maxL ret) (rmv d mc ms)).room, s, m, av.toArray, below, meth, c, MQ below (qc E post) av.toArray s mc ms (bs E)) rfl ⟨B.exec, B.bytes, hml, findClass_of_methodNamed B.named, fun w hw => hts0 w (List.mem_cons_of_mem _ hw), B.returns, B.notSynchronized, ⟨Nat.le_refl _, Nat.le_refl _, Nat.le_refl _, Nat.le_refl _⟩, hSt, (name_of_methodNamed B.named B.method).1⟩ rfl
  exact hb s.heap _ [] (lh.entry hc hn hl) hG0 (fun q hq => absurd hq List.not_mem_nil)
