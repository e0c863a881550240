/-! rows of the walk V: calls -/
theorem Gd.blind {E : Ex} {S : Sx} {im : Mem} {av : List Value} : FrameBlind (fun a U => a = av.toArray ∧ Gd E S im U) := fun _ _ _ _ h => ⟨h.1, h.2.1, h.2.2.calls⟩
theorem wsm_good {y : MethodName} {cc : ByteArray} {maxL : Nat} {ret : Option FieldType} (h : Cond.code y cc maxL ret ∈ tb) : GoodIn tb (wsm y cc maxL ret) := fun w hw => by
  rcases List.mem_cons.mp hw with rfl | h1
  · exact ⟨h, tb_good h⟩
  · exact ⟨h1, tb_good h1⟩
section ZC
variable {E : Ex} {κ : Kx} {cc : ByteArray} {nL : Nat} {own : String} {ret : Option FieldType} {d Rc Rs : Nat} {nm : String} {cells slots pc : Nat} {L : List (Option Value)} {st rest : List Value} {S : Sx} {im : Mem}
variable {y : MethodName} {bytes : ByteArray} {maxL dc mc ms ix : Nat} {rt : Option FieldType} {post : Option Value → Sx → Mem → Prop} {As : List Value}
theorem z_back {H : Heap} {ls : Array Slot} {locs : List Loc} {st0 : List Value} {a : Array Value} (h3 : ∀ q ∈ locs, bs E q.base) (h1 : lh ls nL L)
    (hr : va_Run κ.1 κ.2.1 κ.2.2.1 κ.2.2.2.1 κ.2.2.2.2.1 κ.2.2.2.2.2.1 κ.2.2.2.2.2.2.1 κ.2.2.2.2.2.2.2.1 κ.2.2.2.2.2.2.2.2.1 κ.2.2.2.2.2.2.2.2.2.1 H locs cells slots mc ms (F0 κ.2.2.2.2.2.1 pc ls st0) rest (qc E post a) (bs E))
    (kk : ∀ (r : Option Value) (S' : Sx) (im' : Mem), post r S' im' → V E κ nL (cells + mc) (slots + ms) (pc + 3) L (r.toList ++ rest) S' im') : kW κ H locs cells slots (F0 κ.2.2.2.2.2.1 pc ls st0) := by
  intro T hT X
  obtain ⟨v, st₀, t, T', L', h0, X', hL, e1, e2, ⟨r, S', im', hv, hp, hG', hSt'⟩, st⟩ := hr T hT X
  cases hv
  obtain ⟨t2, a1, b1⟩ := kk v S' im' hp t.heap ls (locs ++ L') h1 hG' (fun q hq => by
    rcases List.mem_append.mp hq with h | h
    · exact h3 q h
    · exact hL q h) T' e1 X'
  exact ⟨t2, st t2 a1, b1⟩
/-- a virtual call -/
theorem z_cV (C : Cx E κ cc nL own ret d Rc Rs nm) {b ci N : Nat} {T : u_T} {ty : Nat → FieldType} (cf : CF ci y.cls T N ty) (hd : decode cc pc = .ok (.invokevirtual ix, 3)) (hc : Mt κ.2.1 E y bytes maxL rt dc mc ms (.ref b :: As) S im post) (w1 : Cond.methodLink own ix y ∈ tb) (w2 : Cond.instanceMethod y ∈ tb) (w3 : Cond.selects y.cls y y ∈ tb) (w4 : Cond.initialized y.cls ∈ tb) (w5 : Cond.code y bytes maxL rt ∈ tb)
    (hy : y.cls ≠ "java/lang/invoke/MethodHandle" ∧ y.cls ≠ "java/lang/invoke/VarHandle" ∧ (parseMethodDescriptor y.desc).map (fun d => d.parameters.length) = some As.length) (hmx : maxL ≤ 44) (hdc : dc < d) (hK : S.2.1 b = ci) (hst : st = As.reverse ++ .ref b :: rest) (hre : (rest.map fun v => v.category).sum ≤ 8) (hcl : cells + mc ≤ Rc) (hsl : slots + ms ≤ Rs)
    (kk : ∀ (r : Option Value) (S' : Sx) (im' : Mem), post r S' im' → V E κ nL (cells + mc) (slots + ms) (pc + 3) L (r.toList ++ rest) S' im') : V E κ nL cells slots pc L st S im := fun H ls locs h1 h2 h3 => by
  subst hst
  have hR := C.2.2.2.2.2.2.2.1
  have hts := C.2.2.2.2.1
  have hSt := C.2.2.2.2.2.2.2.2.1
  have hP := h2.at (q := b) (by have := cf.2.2.2.2.1; omega)
  rw [cel_obj hK cf.2.2.2.2.1] at hP
  have hfr : (rmv dc mc ms).frames + 1 ≤ κ.2.2.2.1.frames := by show dc + 1 ≤ _; omega
  have hlo : 8 + (maxL + 11) + (rmv dc mc ms).locals ≤ κ.2.2.2.1.locals := by show 8 + (maxL + 11) + 64 * dc ≤ _; omega
  exact z_back (a := (Value.ref b :: As).toArray) h3 h1 (va_runV (As := As) (rest := rest) (b := b) ⟨C.1, C.2.1, C.2.2.1, C.2.2.2.1, hts⟩ hc ⟨callB_of As.length hts (wsm_good w5) rfl rfl rfl (hts _ w4) (hts _ w1) hy ⟨hfr, hlo⟩, hts _ w2, hts _ w3⟩ ⟨Gd.blind, va_recv (q0 := 0) hSt.1 hP cf.1 rfl, fun U hU hW => ⟨rfl, by rw [hU]; exact h2, hSt.warm hW⟩⟩ rfl rfl h1.1 rfl (lv_room hre) hd ⟨by omega, by omega⟩) kk
/-- a static call -/
theorem z_cS (C : Cx E κ cc nL own ret d Rc Rs nm) (hd : decode cc pc = .ok (.invokestatic ix, 3)) (hc : Mt κ.2.1 E y bytes maxL rt dc mc ms As S im post) (w1 : Cond.methodLink own ix y ∈ tb) (w2 : Cond.static y ∈ tb) (w4 : Cond.initialized y.cls ∈ tb) (w5 : Cond.code y bytes maxL rt ∈ tb)
    (hy : y.cls ≠ "java/lang/invoke/MethodHandle" ∧ y.cls ≠ "java/lang/invoke/VarHandle" ∧ (parseMethodDescriptor y.desc).map (fun d => d.parameters.length) = some As.length) (hmx : maxL ≤ 44) (hdc : dc < d) (hst : st = As.reverse ++ rest) (hre : (rest.map fun v => v.category).sum ≤ 8) (hcl : cells + mc ≤ Rc) (hsl : slots + ms ≤ Rs)
    (kk : ∀ (r : Option Value) (S' : Sx) (im' : Mem), post r S' im' → V E κ nL (cells + mc) (slots + ms) (pc + 3) L (r.toList ++ rest) S' im') : V E κ nL cells slots pc L st S im := fun H ls locs h1 h2 h3 => by
  subst hst
  have hR := C.2.2.2.2.2.2.2.1
  have hts := C.2.2.2.2.1
  have hSt := C.2.2.2.2.2.2.2.2.1
  have hfr : (rmv dc mc ms).frames + 1 ≤ κ.2.2.2.1.frames := by show dc + 1 ≤ _; omega
  have hlo : 8 + (maxL + 11) + (rmv dc mc ms).locals ≤ κ.2.2.2.1.locals := by show 8 + (maxL + 11) + 64 * dc ≤ _; omega
  exact z_back (a := As.toArray) h3 h1 (va_runS (As := As) (rest := rest) ⟨C.1, C.2.1, C.2.2.1, C.2.2.2.1, hts⟩ hc ⟨callB_of As.length hts (wsm_good w5) rfl rfl rfl (hts _ w4) (hts _ w1) hy ⟨hfr, hlo⟩, hts _ w2⟩ ⟨Gd.blind, fun U hU hW => ⟨rfl, by rw [hU]; exact h2, hSt.warm hW⟩⟩ rfl rfl h1.1 rfl (lv_room hre) hd ⟨by omega, by omega⟩) kk
/-- a constructor -/
theorem z_cI (C : Cx E κ cc nL own ret d Rc Rs nm) {b : Nat} (hd : decode cc pc = .ok (.invokespecial ix, 3)) (hc : Mt κ.2.1 E y bytes maxL none dc mc ms (.ref b :: As) S im post) (w1 : Cond.methodLink own ix y ∈ tb) (w2 : Cond.instanceMethod y ∈ tb) (w4 : Cond.initialized y.cls ∈ tb) (w5 : Cond.code y bytes maxL none ∈ tb) (hy1 : y.name = "<init>")
    (hy : y.cls ≠ "java/lang/invoke/MethodHandle" ∧ y.cls ≠ "java/lang/invoke/VarHandle" ∧ (parseMethodDescriptor y.desc).map (fun d => d.parameters.length) = some As.length) (hmx : maxL ≤ 44) (hdc : dc < d) (hst : st = As.reverse ++ .ref b :: rest) (hre : (rest.map fun v => v.category).sum ≤ 8) (hcl : cells + mc ≤ Rc) (hsl : slots + ms ≤ Rs)
    (kk : ∀ (r : Option Value) (S' : Sx) (im' : Mem), post r S' im' → V E κ nL (cells + mc) (slots + ms) (pc + 3) L (r.toList ++ rest) S' im') : V E κ nL cells slots pc L st S im := fun H ls locs h1 h2 h3 => by
  subst hst
  have hR := C.2.2.2.2.2.2.2.1
  have hts := C.2.2.2.2.1
  have hSt := C.2.2.2.2.2.2.2.2.1
  have hfr : (rmv dc mc ms).frames + 1 ≤ κ.2.2.2.1.frames := by show dc + 1 ≤ _; omega
  have hlo : 8 + (maxL + 11) + (rmv dc mc ms).locals ≤ κ.2.2.2.1.locals := by show 8 + (maxL + 11) + 64 * dc ≤ _; omega
  exact z_back (a := (Value.ref b :: As).toArray) h3 h1 (va_runI (As := As) (rest := rest) (b := b) ⟨C.1, C.2.1, C.2.2.1, C.2.2.2.1, hts⟩ hc ⟨callB_of As.length hts (wsm_good w5) rfl rfl rfl (hts _ w4) (hts _ w1) hy ⟨hfr, hlo⟩, hy1, hts _ w2⟩ ⟨Gd.blind, fun U hU hW => ⟨rfl, by rw [hU]; exact h2, hSt.warm hW⟩⟩ rfl rfl h1.1 rfl (lv_room hre) hd ⟨by omega, by omega⟩) kk
/-- a nest mate's constructor -/
theorem z_cIN (C : Cx E κ cc nL own ret d Rc Rs nm) {b : Nat} (hd : decode cc pc = .ok (.invokespecial ix, 3)) (hc : Mt κ.2.1 E y bytes maxL none dc mc ms (.ref b :: As) S im post) (w1 : (own, ix, y) ∈ nwd) (w2 : Cond.instanceMethod y ∈ tb) (w4 : Cond.initialized y.cls ∈ tb) (w5 : Cond.code y bytes maxL none ∈ tb) (hy1 : y.name = "<init>")
    (hy : y.cls ≠ "java/lang/invoke/MethodHandle" ∧ y.cls ≠ "java/lang/invoke/VarHandle" ∧ (parseMethodDescriptor y.desc).map (fun d => d.parameters.length) = some As.length) (hmx : maxL ≤ 44) (hdc : dc < d) (hst : st = As.reverse ++ .ref b :: rest) (hre : (rest.map fun v => v.category).sum ≤ 8) (hcl : cells + mc ≤ Rc) (hsl : slots + ms ≤ Rs)
    (kk : ∀ (r : Option Value) (S' : Sx) (im' : Mem), post r S' im' → V E κ nL (cells + mc) (slots + ms) (pc + 3) L (r.toList ++ rest) S' im') : V E κ nL cells slots pc L st S im := fun H ls locs h1 h2 h3 => by
  subst hst
  have hR := C.2.2.2.2.2.2.2.1
  have hts := C.2.2.2.2.1
  have hSt := C.2.2.2.2.2.2.2.2.1
  have hfr : (rmv dc mc ms).frames + 1 ≤ κ.2.2.2.1.frames := by show dc + 1 ≤ _; omega
  have hlo : 8 + (maxL + 11) + (rmv dc mc ms).locals ≤ κ.2.2.2.1.locals := by show 8 + (maxL + 11) + 64 * dc ≤ _; omega
  exact z_back (a := (Value.ref b :: As).toArray) h3 h1 (va_runIN (As := As) (rest := rest) (b := b) (host := RX6) ⟨C.1, C.2.1, C.2.2.1, C.2.2.2.1, hts⟩ hc ⟨va_cnB As.length hts (wsm_good w5) rfl rfl rfl (hSt.2.1.1 _ w1) (hts _ w4) hy ⟨hfr, hlo⟩, hy1, hts _ w2⟩ ⟨Gd.blind, fun U hU hW => ⟨rfl, by rw [hU]; exact h2, hSt.warm hW⟩⟩ rfl rfl h1.1 rfl (lv_room hre) hd ⟨by omega, by omega⟩) kk
/-- a nest mate's static method -/
theorem z_cSN (C : Cx E κ cc nL own ret d Rc Rs nm) (hd : decode cc pc = .ok (.invokestatic ix, 3)) (hc : Mt κ.2.1 E y bytes maxL rt dc mc ms As S im post) (w1 : (own, ix, y) ∈ nwd) (w2 : Cond.static y ∈ tb) (w4 : Cond.initialized y.cls ∈ tb) (w5 : Cond.code y bytes maxL rt ∈ tb)
    (hy : y.cls ≠ "java/lang/invoke/MethodHandle" ∧ y.cls ≠ "java/lang/invoke/VarHandle" ∧ (parseMethodDescriptor y.desc).map (fun d => d.parameters.length) = some As.length) (hmx : maxL ≤ 44) (hdc : dc < d) (hst : st = As.reverse ++ rest) (hre : (rest.map fun v => v.category).sum ≤ 8) (hcl : cells + mc ≤ Rc) (hsl : slots + ms ≤ Rs)
    (kk : ∀ (r : Option Value) (S' : Sx) (im' : Mem), post r S' im' → V E κ nL (cells + mc) (slots + ms) (pc + 3) L (r.toList ++ rest) S' im') : V E κ nL cells slots pc L st S im := fun H ls locs h1 h2 h3 => by
  subst hst
  have hR := C.2.2.2.2.2.2.2.1
  have hts := C.2.2.2.2.1
  have hSt := C.2.2.2.2.2.2.2.2.1
  have hfr : (rmv dc mc ms).frames + 1 ≤ κ.2.2.2.1.frames := by show dc + 1 ≤ _; omega
  have hlo : 8 + (maxL + 11) + (rmv dc mc ms).locals ≤ κ.2.2.2.1.locals := by show 8 + (maxL + 11) + 64 * dc ≤ _; omega
  exact z_back (a := As.toArray) h3 h1 (va_runSN (As := As) (rest := rest) (host := RX6) ⟨C.1, C.2.1, C.2.2.1, C.2.2.2.1, hts⟩ hc ⟨va_cnB As.length hts (wsm_good w5) rfl rfl rfl (hSt.2.1.1 _ w1) (hts _ w4) hy ⟨hfr, hlo⟩, hts _ w2, trivial⟩ ⟨Gd.blind, fun U hU hW => ⟨rfl, by rw [hU]; exact h2, hSt.warm hW⟩⟩ rfl rfl h1.1 rfl (lv_room hre) hd ⟨by omega, by omega⟩) kk
/-- Object's constructor -/
theorem z_obj (C : Cx E κ cc nL own ret d Rc Rs nm) {b : Nat} (hd : decode cc pc = .ok (.invokespecial ix, 3)) (w1 : Cond.methodLink own ix objectInit ∈ tb) (hd1 : 1 ≤ d) (hre : (st.map fun v => v.category).sum ≤ 8) (kk : V E κ nL cells slots (pc + 3) L st S im) : V E κ nL cells slots pc L (.ref b :: st) S im := fun H ls locs h1 h2 h3 => by
  have hR := C.2.2.2.2.2.2.2.1
  have hts := C.2.2.2.2.1
  have h9 : 2 * (F0 κ.2.2.2.2.2.1 pc ls (.ref b :: st)).monitorRoom + (st.map fun v => v.category).sum ≤ 8 := lv_room hre
  exact W.objInit C.1 C.2.1 C.2.2.2.1 (hts _ w1) (hts _ wi_Obj_init) (hts _ wc_Obj_init) rfl (by rw [C.2.2.1]; exact h1.1) rfl hd (by omega) (by omega) (kk H ls locs h1 h2 h3)
theorem z_max (C : Cx E κ cc nL own ret d Rc Rs nm) {x y : Int32} (hd : decode cc pc = .ok (.invokestatic ix, 3)) (w1 : Cond.methodLink own ix Lib.Math.max.name ∈ tb) (hd1 : 1 ≤ d) (hre : (st.map fun v => v.category).sum ≤ 8) (hcl : cells ≤ Rc) (hsl : slots ≤ Rs) (kk : V E κ nL cells slots (pc + 3) L (.int (if x < y then y else x) :: st) S im) : V E κ nL cells slots pc L (.int y :: .int x :: st) S im := fun H ls locs h1 h2 h3 => by
  have hR := C.2.2.2.2.2.2.2.1
  have hts := C.2.2.2.2.1
  exact va_mmax C.1 C.2.1 (C.2.2.1.trans h1.1.symm) C.2.2.2.1 (hts _ w1) (hts _ wt_M_max) (hts _ wn_J9) (hts _ wc_M_max) (by omega) (by omega) (by omega) (by omega) hd (kk H ls locs h1 h2 h3)
theorem z_min (C : Cx E κ cc nL own ret d Rc Rs nm) {x y : Int32} (hd : decode cc pc = .ok (.invokestatic ix, 3)) (w1 : Cond.methodLink own ix Lib.Math.min.name ∈ tb) (hd1 : 1 ≤ d) (hre : (st.map fun v => v.category).sum ≤ 8) (hcl : cells ≤ Rc) (hsl : slots ≤ Rs) (kk : V E κ nL cells slots (pc + 3) L (.int (if y < x then y else x) :: st) S im) : V E κ nL cells slots pc L (.int y :: .int x :: st) S im := fun H ls locs h1 h2 h3 => by
  have hR := C.2.2.2.2.2.2.2.1
  have hts := C.2.2.2.2.1
  exact va_mmin C.1 C.2.1 (C.2.2.1.trans h1.1.symm) C.2.2.2.1 (hts _ w1) (hts _ wt_M_min) (hts _ wn_J9) (hts _ wc_M_min) (by omega) (by omega) (by omega) (by omega) hd (kk H ls locs h1 h2 h3)
theorem z_abs (C : Cx E κ cc nL own ret d Rc Rs nm) {x : Int32} (hd : decode cc pc = .ok (.invokestatic ix, 3)) (w1 : Cond.methodLink own ix Lib.Math.abs.name ∈ tb) (hd1 : 1 ≤ d) (hre : (st.map fun v => v.category).sum ≤ 8) (hcl : cells ≤ Rc) (hsl : slots ≤ Rs) (kk : V E κ nL cells slots (pc + 3) L (.int (if 0 ≤ x then x else 0 - x) :: st) S im) : V E κ nL cells slots pc L (.int x :: st) S im := fun H ls locs h1 h2 h3 => by
  have hR := C.2.2.2.2.2.2.2.1
  have hts := C.2.2.2.2.1
  exact va_mabs C.1 C.2.1 (C.2.2.1.trans h1.1.symm) C.2.2.2.1 (hts _ w1) (hts _ wt_M_abs) (hts _ wn_J9) (hts _ wc_M_abs) (by omega) (by omega) (by omega) (by omega) hd (kk H ls locs h1 h2 h3)
end ZC
