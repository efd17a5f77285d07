/-! What a throw of a new object asks of the tables and of Throwable's statics, and the row for new; dup; ldc; invokespecial; athrow. -/
section XS0
theorem xs_at {w : Cond} (h : (w.onTables && w.keepsCast) = true) {A A' : Array Value} {s U : State} (hW : s.WarmedH U.vm) (hb : w.before A s = true) : w.before A' U = true := by
  simp only [Bool.and_eq_true] at h
  exact va_tabs h.1 (rfl : (s.setVm U.vm).vm = U.vm) (Cond.before_shiftedCast (State.Shifted.of_warmed hW) w h.2 hb)
/-- a static field of reference type: where it lies, and that it holds a reference or null -/
def xs_F (C n d : String) (U : State) (H : Heap) : Prop := ∃ (c : ClassId) (k : Class) (i : Nat) (f : Field) (a : Nat) (cell : Cell) (v : Value),
  (U.vm.findClass C = some c ∧ U.fieldFound? C n d = some (c, k, i, f) ∧ f.isStatic = true ∧ k.statics = some a ∧ k.staticTypes[f.slot]? = some f.type) ∧
  H[a]? = some cell ∧ cell.vm.isStatics = true ∧ cell.cls = c ∧ f.slot < cell.slots.size ∧ cell.slots[f.slot]? = some v ∧ v.isRef = true
theorem xs_F.of {A : Array Value} {U : State} {C n d : String} (hl : (Cond.laysStatic C n d).before A U = true) (hr : (Cond.isRef (.static C n d)).before A U = true) : xs_F C n d U U.heap := by
  obtain ⟨c, k, i, f, a, cell, h1, h2, h3, h4, h5, h6, h7, h8, h9⟩ := Cond.laysStatic_spec hl
  obtain ⟨u, hu⟩ := Cond.staticRefV h2 h3 h4 h5 h6 hr
  exact ⟨c, k, i, f, a, cell, u.v, ⟨h1, h2, h3, h4, h9⟩, h5, h6, h7, h8, hu, u.ok⟩
theorem xs_F.lays {A : Array Value} {U : State} {C n d : String} (h : xs_F C n d U U.heap) : (Cond.laysStatic C n d).before A U = true := by
  obtain ⟨c, k, i, f, a, cell, v, ⟨h1, h2, h3, h4, h5⟩, g1, g2, g3, g4, g5, g6⟩ := h
  exact Cond.laysStatic_of (first := U) (o := none) (idx := []) h1 h2 h3 h4 g1 g2 g3 g4 h5
theorem xs_F.ref {A : Array Value} {U : State} {C n d : String} (h : xs_F C n d U U.heap) : (Cond.isRef (.static C n d)).before A U = true := by
  obtain ⟨c, k, i, f, a, cell, v, ⟨h1, h2, h3, h4, h5⟩, g1, g2, g3, g4, g5, g6⟩ := h
  have he : (Term.static C n d).eval A U none [] U = some v := by
    simp [Term.eval, State.fieldNamed?, h2, h3, h4, g1, g2, g5]
  simp only [Cond.before, Cond.holds, Cond.value, he]
  cases v <;> simp_all [Value.isRef]
/-- every cell with a class's statics is as it was -/
def xs_keep (H H1 : Heap) : Prop := ∀ (a : Nat) (cell : Cell), H[a]? = some cell → cell.vm.isStatics = true → H1[a]? = some cell
theorem xs_keep.rf {H : Heap} : xs_keep H H := fun _ _ h _ => h
theorem xs_keep.tr {H H1 H2 : Heap} (h : xs_keep H H1) (h2 : xs_keep H1 H2) : xs_keep H H2 := fun a cell x y => h2 a cell (h a cell x y) y
theorem xs_F.move {C n d : String} {u U : State} {H H1 : Heap} (hvm : u.vm.Alike U.vm) (hk : xs_keep H H1) (h : xs_F C n d u H) : xs_F C n d U H1 := by
  obtain ⟨c, k, i, f, a, cell, v, ⟨h1, h2, h3, h4, h5⟩, g1, g2, g3, g4, g5, g6⟩ := h
  obtain ⟨k', hi, he⟩ := State.fieldFound?_setVm hvm h2
  exact ⟨c, k', i, f, a, cell, v, ⟨by rw [hvm.findClass]; exact h1, hi, h3, by rw [he]; exact h4, by rw [he]; exact h5⟩, hk a cell g1 g2, g2, g3, g4, g5, g6⟩
/-- all that the throws of a class ask: words of the tables (L), two statics, texts (S) -/
def xs_Th (L : List Cond) (S : List (String × Nat × String)) (U : State) : Prop := (∀ w ∈ L, w.before #[] U = true) ∧ xs_F Bundle.tN "UNASSIGNED_STACK" Bundle.steD U U.heap ∧ xs_F Bundle.tN "SUPPRESSED_SENTINEL" Bundle.listD U U.heap ∧ ∀ q ∈ S, ∃ sa : Nat, vk_R q.1 q.2.1 q.2.2 sa U
theorem xs_Th.move {L : List Cond} {S : List (String × Nat × String)} {s U : State} (hL : L.all (fun w => w.onTables && w.keepsCast) = true) (hW : s.WarmedH U.vm) (hk : xs_keep s.heap U.heap) (h : xs_Th L S s) : xs_Th L S U := by
  obtain ⟨h1, h2, h3, h4⟩ := h
  refine ⟨fun w hw => xs_at (List.all_eq_true.mp hL w hw) hW (h1 w hw), h2.move hW.alike hk, h3.move hW.alike hk, fun q hq => ?_⟩
  obtain ⟨sa, h5⟩ := h4 q hq
  exact ⟨sa, h5.warm hW⟩
theorem xs_keep.of {A : Nat → Prop} {H0 H : Heap} {locs : List Loc} (hS : va_S A H0 H locs) (hA : ∀ (q : Nat) (cell : Cell), A q → H0[q]? = some cell → cell.vm.isStatics = false) : xs_keep H0 H := by
  intro a cell h hs
  rw [hS.2.1 a (Array.getElem?_eq_some_iff.mp h).1 (fun z => by rw [hA a cell z h] at hs; cases hs)]
  exact h
theorem xs_world {D : va_G} {cl : List vw_C} {ws : va_W} {H0 : Heap} (hP : va_P D cl ws H0) : ∀ (q : Nat) (cell : Cell), va_A ws H0.size q → H0[q]? = some cell → cell.vm.isStatics = false := by
  intro q cell hA hc
  rcases hA with ⟨k, e, hk⟩ | h
  · have h1 := hP k _ hk
    cases e with
    | inl x =>
      have h2 : H0[q]? = some (vp_cell x.1 x.2) := h1
      cases hc.symm.trans h2
      obtain ⟨cA, n, f | f | f | f | f⟩ := x <;> rfl
    | inr o =>
      obtain ⟨r, -, cell2, g1, -, g3, -⟩ := h1
      cases hc.symm.trans g1
      rw [g3]; rfl
  · have h1 := (Array.getElem?_eq_some_iff.mp hc).1
    omega
/-- the words of a throw, but for the four that speak of the heap -/
def xs_no (w : Cond) : Bool := decide (w ≠ .isRef (.static Bundle.tN "UNASSIGNED_STACK" Bundle.steD)) && decide (w ≠ .isRef (.static Bundle.tN "SUPPRESSED_SENTINEL" Bundle.listD)) && decide (w ≠ .laysStatic Bundle.tN "UNASSIGNED_STACK" Bundle.steD) && decide (w ≠ .laysStatic Bundle.tN "SUPPRESSED_SENTINEL" Bundle.listD)
def xs_need (own : String) (ia ic : Nat) (X : String) (names : List String) : List Cond := Cond.classLink own ia X :: Cond.initialized X :: (Bundle.ownAtoms own ic X names).filter xs_no
theorem xs_words {L : List Cond} {S : List (String × Nat × String)} {U : State} {A : Array Value} {own X : String} {ia ic : Nat} {names : List String} (hL : L.all (fun w => w.onTables && w.keepsCast) = true) (h : xs_Th L S U) (hin : ∀ w ∈ xs_need own ia ic X names, w ∈ L) :
    (Cond.classLink own ia X).before A U = true ∧ (Cond.initialized X).before A U = true ∧ ∀ w ∈ Bundle.ownAtoms own ic X names, w.before A U = true := by
  have one : ∀ w ∈ xs_need own ia ic X names, w.before A U = true := fun w hw => xs_at (List.all_eq_true.mp hL w (hin w hw)) (State.WarmedH.refl U) (h.1 w (hin w hw))
  refine ⟨one _ List.mem_cons_self, one _ (List.mem_cons_of_mem _ List.mem_cons_self), fun w hw => ?_⟩
  by_cases e1 : w = .isRef (.static Bundle.tN "UNASSIGNED_STACK" Bundle.steD)
  · rw [e1]; exact h.2.1.ref
  by_cases e2 : w = .isRef (.static Bundle.tN "SUPPRESSED_SENTINEL" Bundle.listD)
  · rw [e2]; exact h.2.2.1.ref
  by_cases e3 : w = .laysStatic Bundle.tN "UNASSIGNED_STACK" Bundle.steD
  · rw [e3]; exact h.2.1.lays
  by_cases e4 : w = .laysStatic Bundle.tN "SUPPRESSED_SENTINEL" Bundle.listD
  · rw [e4]; exact h.2.2.1.lays
  refine one w (List.mem_cons_of_mem _ (List.mem_cons_of_mem _ (List.mem_filter.mpr ⟨hw, ?_⟩)))
  simp [xs_no, e1, e2, e3, e4]
end XS0
section XS1
variable {p : Program} {l : Launch} {e : Env} {R : Room} {s : State} {m : MethodId} {args : Array Value} {below : List Frame} {meth : Method} {c : Code} {H : Heap} {locs : List Loc} {cells slots : Nat}
/-- the same stand, as if the method had been called in the heap of now -/
theorem xs_base {T : State} (X : Stand p l e R s m args below meth c T locs cells slots) {k n : Nat} (hk : cells + k ≤ R.cells) (hn : slots + n ≤ R.slots) :
    Stand p l e { R with cells := k, slots := n } { s with heap := T.heap, slotsUsed := T.slotsUsed } m args below meth c T [] 0 0 := by
  refine ⟨X.admits, X.cas, X.clock, X.frames, ?_, X.hears, X.method, X.code, X.here, X.tail, X.warmed, X.limits, X.bytes, ?_⟩
  · have h := X.room
    have q1 := X.heapSize
    have q2 := X.used
    have q3 := X.book
    simp only [State.hasRoom, Bool.and_eq_true, decide_eq_true_eq] at h ⊢
    obtain ⟨⟨⟨⟨h1, h2⟩, h7⟩, h8⟩, -⟩ := h
    refine ⟨⟨⟨⟨h1, h2⟩, ?_⟩, ?_⟩, q3⟩
    · show T.heap.size + k ≤ e.platform.maxCells
      omega
    · show T.slotsUsed + n ≤ e.platform.maxSlots
      omega
  · have hd : T.heap.toList.drop T.heap.size = [] := List.drop_of_length_le (by simp)
    refine ⟨X.same.1, Nat.le_refl _, Nat.le_refl _, ?_, ?_, fun a c9 h9 => ⟨c9, h9, rfl, rfl, fun _ _ => rfl⟩⟩
    · show T.slotsUsed = T.slotsUsed + ((T.heap.toList.drop T.heap.size).map (·.slots.size)).sum
      rw [hd]; rfl
    · show ((T.heap.toList.drop T.heap.size).map (·.slots.size)).sum ≤ 0
      rw [hd]; exact Nat.le_refl _
/-- nothing was written: the old cells are as they were -/
theorem xs_old {u U : State} {k n : Nat} (h : u.sameButNew ({ U with vm := u.vm } : State) [] k n) : ∀ q : Nat, q < u.heap.size → U.heap[q]? = u.heap[q]? := by
  intro q hq
  obtain ⟨c9, e1, e2, -, e4⟩ := h.2.2.2.2.2 q _ (Array.getElem?_eq_getElem hq)
  have hs : c9.slots = (u.heap[q]).slots := Array.ext_getElem? fun i => e4 i (fun z => nomatch z)
  rw [hs] at e2
  have e5 : c9 = u.heap[q] := e2
  have e6 : U.heap[q]? = some c9 := e1
  rw [e6, e5, Array.getElem?_eq_getElem hq]
theorem xs_back {T U : State} (X : Stand p l e R s m args below meth c T locs cells slots) {k n : Nat} (h : ({ s with heap := T.heap, slotsUsed := T.slotsUsed } : State).sameButNew ({ U with vm := s.vm } : State) [] k n) : s.sameButNew ({ U with vm := s.vm } : State) locs (cells + k) (slots + n) := by
  have h9 : (T.setVm s.vm).setFrames U.frames = ({ s with heap := T.heap, slotsUsed := T.slotsUsed } : State).setFrames U.frames := by
    have e1 : T.setVm s.vm = ({ s.setFrames T.frames with heap := T.heap, slotsUsed := T.slotsUsed } : State) := X.same.1
    rw [e1]
    show ({ (s.setFrames T.frames).setFrames U.frames with heap := T.heap, slotsUsed := T.slotsUsed } : State) = _
    rw [State.setFrames_setFrames]
    rfl
  have h2 : (T.setVm s.vm).sameButNew ({ U with vm := s.vm } : State) [] k n := by
    refine ⟨?_, h.2⟩
    have e2 := h.1
    show ({ U with vm := s.vm } : State) = { (T.setVm s.vm).setFrames U.frames with heap := U.heap, slotsUsed := U.slotsUsed }
    rw [h9]
    exact e2
  have h3 := X.same.trans h2
  rw [List.append_nil] at h3
  exact h3
set_option maxHeartbeats 2000000 in
/-- throw new X("..") in a method without handlers: one cell of six slots is new, no old cell changes -/
theorem xs_throw {L : List Cond} {S : List (String × Nat × String)} {Qc : Array Value → State → Outcome → State → Prop} {free : Addr → Prop} {cc : ByteArray} {pc : Nat} {ls : Array Slot} {rest : List Value} {own X tx : String} {names : List String} {ia is ic : Nat}
    (hexec : p.tables.exec = Jvm.exec) (hb : c.code = cc) (htr : l.stackTraces = false) (hml : ls.size = c.maxLocals) (hlocks : meth.locks = false) (hown : s.vm.findClass own = some m.cls)
    (hL : L.all (fun w => w.onTables && w.keepsCast) = true) (hTh : xs_Th L S s) (hkeep : xs_keep s.heap H) (hX : Bundle.fit X = true) (hnames : names.all Bundle.fit = true)
    (hin : ∀ w ∈ xs_need own ia ic X names, w ∈ L) (hstr : (own, is, tx) ∈ S)
    (d0 : decode cc pc = .ok (.new ia, 3)) (d3 : decode cc (pc + 3) = .ok (.dup, 1)) (d4 : decode cc (pc + 4) = .ok (.ldc is, 2)) (d6 : decode cc (pc + 6) = .ok (.invokespecial ic, 3)) (d9 : decode cc (pc + 9) = .ok (.athrow, 1))
    (hout : ∀ z ∈ c.exceptionTable.toList, ∀ pc : Nat, covers z pc = false)
    (hRf : names.length + 3 < R.frames) (hRl : 1 + (rest.map fun v => v.category).sum + (13 * (names.length + 1) + 42) ≤ R.locals) (hcells : cells + 1 ≤ R.cells) (hslots : slots + 6 ≤ R.slots)
    (hq : ∀ t : State, (∀ z : Nat, z < H.size → t.heap[z]? = H[z]?) → H.size ≤ t.heap.size → s.WarmedH t.vm → xt_Is X H.size t → Qc args s (.threw H.size) t) (hf : ∀ q ∈ locs, free q.base) :
    W p l e R s m args below meth c H locs cells slots (xt_MQ below Qc args s (cells + 1) (slots + 6) free) (F0 m pc ls rest) := by
  intro T hT X0
  have htr2 : e.platform.stackTraces = false := (show e.platform.stackTraces = l.stackTraces by rw [X0.admits.platform]).trans htr
  have Y := xs_base X0 (k := 1) (n := 6) hcells hslots
  have hTh2 : xs_Th L S ({ s with heap := T.heap, slotsUsed := T.slotsUsed } : State) := hTh.move hL (State.WarmedH.refl s) (by show xs_keep s.heap T.heap; rw [hT]; exact hkeep)
  obtain ⟨w1, w2, w3⟩ := xs_words (A := args) hL hTh2 hin
  obtain ⟨sa, hsa⟩ := hTh2.2.2.2 _ hstr
  have hback : ∀ U : State, ({ s with heap := T.heap, slotsUsed := T.slotsUsed } : State).sameButNew ({ U with vm := s.vm } : State) [] (0 + 1) (0 + 6) → s.sameButNew ({ U with vm := s.vm } : State) locs (cells + 1) (slots + 6) := fun U h => xs_back X0 h
  have hhp : ({ s with heap := T.heap, slotsUsed := T.slotsUsed } : State).heap = H := hT
  have hvm : ({ s with heap := T.heap, slotsUsed := T.slotsUsed } : State).vm = s.vm := rfl
  generalize hs2 : ({ s with heap := T.heap, slotsUsed := T.slotsUsed } : State) = s2 at Y hTh2 w1 w2 w3 hsa hback hhp hvm
  have hown2 : s2.vm.findClass own = some m.cls := by rw [hvm]; exact hown
  have w4 : (Cond.instantiable X 6).before args s2 = true := w3 _ (by simp [Bundle.ownAtoms])
  obtain ⟨cX, -, hcX, -⟩ := Cond.instantiable_spec w4
  have body : W p l e { R with cells := 1, slots := 6 } s2 m args below meth c H [] 0 0 (fun U => U.status = .running ∧ Ended U below (.threw H.size) ∧ s2.WarmedH U.vm ∧ s2.sameButNew ({ U with vm := s2.vm } : State) [] (0 + 1) (0 + 6) ∧ ∃ ce : Cell, U.heap[H.size]? = some ce ∧ s2.vm.findClass X = some ce.cls ∧ ce.vm = .none) (F0 m pc ls rest) := by
    refine W.newcK hexec hb hown2 w1 w4 w2 rfl d0 (Nat.le_refl _) (Nat.le_refl _) hcX rfl fun H1 kC hkC e1 z1 o1 => ?_
    refine W.eq (g2 := F0 m (pc + 3) ls (.ref H.size :: rest)) rfl ?_
    refine lv_dup hexec hb d3 rfl ?_
    refine va_ldcS hexec hb hown2 hsa d4 ?_
    intro T3 hT3 X3
    have hcat : (Value.ref H.size).category = 1 := rfl
    obtain ⟨U, hsteps, hrun, hend, hW, hsame, ce, hce, hO⟩ := X3.ctorThrowS hexec htr2 (own := own) (cls := X) (names := names) (ic := ic) hown2 hX (fun n hn => List.all_eq_true.mp hnames n hn) w3 (fun x hx => nomatch hx) hcX hkC (by rw [hT3]; exact e1) (by rw [hhp]; exact Nat.le_refl _) (msg := .ref sa) rfl
      (g := F0 m (pc + 6) ls (.ref sa :: .ref H.size :: .ref H.size :: rest)) rfl hml rfl rfl (rest := rest) rfl (by rw [hb]; exact d6) (by rw [hb]; exact d9) (fun z hz => hout z hz _) hRf
      (by show 2 * 0 + ((Value.ref H.size :: rest).map fun v => v.category).sum + (13 * (names.length + 1) + 42) ≤ R.locals
          simp only [List.map_cons, List.sum_cons, hcat]; omega) hlocks
    exact ⟨U, hsteps, hrun, hend, hW, hsame, ce, hce, hO.cls, hO.vm⟩
  obtain ⟨U, hst, hrun, hend, hW, hsame, ce, hce, hcl, hv⟩ := body T hT Y
  have hold := xs_old hsame
  rw [hhp] at hold
  have hge : H.size ≤ U.heap.size := Nat.le_of_lt (Array.getElem?_eq_some_iff.mp hce).1
  have hW2 : s.WarmedH U.vm := by
    have h9 : s2.WarmedH U.vm := hW
    rw [← hs2] at h9
    exact h9
  refine ⟨U, hst, .threw H.size, hrun, hend, hq U hold hge hW2 ⟨ce, hce, ?_, hv⟩, locs, ⟨hW2, hback U ?_⟩, hf⟩
  · rw [hW.alike.findClass]; exact hcl
  · rw [hvm] at hsame; exact hsame
end XS1
