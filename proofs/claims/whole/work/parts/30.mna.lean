/-! A row of my own: new long[5][32] by one instruction. The state grows by an outer cell, then five times by a row whose address goes into the outer cell. -/
def xm_out (cA h i : Nat) : Cell := arrV cA 5 (fun j => if j < i then .ref (h + 1 + j) else .null)
def xm_row (comp : Nat) : Cell := arrV comp 32 (fun _ => .long 0)
def xm_st (S : State) (cA comp h : Nat) : Nat → State
  | 0 => S.pushCell (xm_out cA h 0)
  | i + 1 => ((xm_st S cA comp h i).pushCell (xm_row comp)).setCell h (xm_out cA h (i + 1))
theorem xm_next (cA h i : Nat) : (xm_out cA h i).setSlot i (.ref (h + 1 + i)) = xm_out cA h (i + 1) := by
  unfold xm_out
  rw [arrV_store]
  congr 1
  funext j
  unfold updV
  by_cases e : j = i
  · subst e; rw [if_pos rfl, if_pos (by omega)]
  · rw [if_neg e]
    show (if j < i then Value.ref (h + 1 + j) else Value.null) = _
    by_cases g : j < i
    · rw [if_pos g, if_pos (by omega)]
    · rw [if_neg g, if_neg (by omega)]
theorem xm_facts (S : State) (cA comp : Nat) : ∀ i, (xm_st S cA comp S.heap.size i).heap.size = S.heap.size + 1 + i ∧ (xm_st S cA comp S.heap.size i).vm = S.vm ∧ (xm_st S cA comp S.heap.size i).slotsUsed = S.slotsUsed + 5 + 32 * i
    ∧ (xm_st S cA comp S.heap.size i).heap[S.heap.size]? = some (xm_out cA S.heap.size i) ∧ (∀ q : Nat, q < S.heap.size → (xm_st S cA comp S.heap.size i).heap[q]? = S.heap[q]?) ∧ ∀ j : Nat, j < i → (xm_st S cA comp S.heap.size i).heap[S.heap.size + 1 + j]? = some (xm_row comp)
  | 0 => ⟨by show (S.heap.push _).size = _; rw [Array.size_push], rfl, by show S.slotsUsed + (xm_out cA S.heap.size 0).slots.size = _; unfold xm_out; rw [arrV_size], State.heap_pushCell_size .., fun q h => State.heap_pushCell_of_lt _ _ h, fun j h => absurd h (Nat.not_lt_zero j)⟩
  | i + 1 => by
    obtain ⟨h1, h2, h3, h4, h5, h6⟩ := xm_facts S cA comp i
    have hz : ((xm_st S cA comp S.heap.size i).pushCell (xm_row comp)).heap.size = S.heap.size + 1 + (i + 1) := by
      show ((xm_st S cA comp S.heap.size i).heap.push _).size = _
      rw [Array.size_push, h1]; omega
    have old : ∀ q : Nat, q < S.heap.size + 1 + i → ((xm_st S cA comp S.heap.size i).pushCell (xm_row comp)).heap[q]? = (xm_st S cA comp S.heap.size i).heap[q]? := fun q hq => State.heap_pushCell_of_lt _ _ (by rw [h1]; exact hq)
    refine ⟨?_, h2, ?_, ?_, fun q hq => ?_, fun j hj => ?_⟩
    · show (((xm_st S cA comp S.heap.size i).pushCell (xm_row comp)).setCell S.heap.size _).heap.size = _
      rw [size_setCell, hz]
    · show (xm_st S cA comp S.heap.size i).slotsUsed + (xm_row comp).slots.size = _
      rw [h3]; unfold xm_row; rw [arrV_size]; omega
    · exact State.heap_setCell_self (c := xm_out cA S.heap.size i) (by rw [old _ (by omega)]; exact h4)
    · show (((xm_st S cA comp S.heap.size i).pushCell (xm_row comp)).setCell S.heap.size _).heap[q]? = _
      rw [State.heap_setCell_other (show S.heap.size ≠ q by omega), old q (by omega), h5 q hq]
    · show (((xm_st S cA comp S.heap.size i).pushCell (xm_row comp)).setCell S.heap.size _).heap[S.heap.size + 1 + j]? = _
      rw [State.heap_setCell_other (show S.heap.size ≠ S.heap.size + 1 + j by omega)]
      by_cases e : j = i
      · subst e
        rw [← h1]
        exact State.heap_pushCell_size ..
      · rw [old _ (by omega), h6 j (by omega)]
section XM
variable {p : Program} {l : Launch} {e : Env} {R : Room} {s : State} {m : MethodId} {args : Array Value} {below : List Frame} {meth : Method} {c : Code} {H : Heap} {locs : List Loc} {cells slots : Nat} {Q : State → Prop}
theorem xm_stand {S : State} (X : Stand p l e R s m args below meth c S locs cells slots) (hh : s.heap.size ≤ S.heap.size) (cA comp : Nat) : ∀ i, i ≤ 5 → Stand p l e R s m args below meth c (xm_st S cA comp S.heap.size i) locs (cells + 1 + i) (slots + 5 + 32 * i)
  | 0, _ => by
    have h := X.pushed (xm_out cA S.heap.size 0)
    rw [show (xm_out cA S.heap.size 0).slots.size = 5 from arrV_size _ _ _] at h
    exact h
  | i + 1, hi => by
    have h := (xm_stand X hh cA comp i (by omega)).pushed (xm_row comp)
    rw [show (xm_row comp).slots.size = 32 from arrV_size _ _ _] at h
    obtain ⟨h1, -, -, h4, -⟩ := xm_facts S cA comp i
    have hc : ((xm_st S cA comp S.heap.size i).pushCell (xm_row comp)).heap[S.heap.size]? = some (xm_out cA S.heap.size i) := by rw [State.heap_pushCell_of_lt _ _ (show S.heap.size < (xm_st S cA comp S.heap.size i).heap.size by rw [h1]; omega)]; exact h4
    have g := h.stored hc i (.ref (S.heap.size + 1 + i))
    rw [xm_next] at g
    have g2 := Stand.forget (locs := locs) g (fun y hy => by simp only [List.mem_cons, List.not_mem_nil, or_false] at hy; subst hy; exact hh)
    have e1 : cells + 1 + i + 1 = cells + 1 + (i + 1) := by omega
    have e2 : slots + 5 + 32 * i + 32 = slots + 5 + 32 * (i + 1) := by omega
    rw [e1, e2] at g2
    exact g2
end XM
section XM2
variable {E : CtlPost} {e : Env} {d : Bool} {acts : List Action} {S : State}
theorem xm_new1 {comp c2 : ClassId} {kC : Class} (hk : S.vm.classes[comp]? = some kC) (hkind : kC.kind = .array c2 .long) (hl : ¬ 32 > e.platform.arrayLengthLimit) (hb : ¬ 32 * componentBytes .long > e.platform.maxHeapBytes) (h1 : S.heap.size < e.platform.maxCells) (h2 : S.slotsUsed + 32 ≤ e.platform.maxSlots) {Q : Addr → Pre}
    (hq : ∀ acts', Q S.heap.size d acts' (S.pushCell (xm_row comp))) : wp (multianewarray.make comp [nI 32]) Q E e d acts S := by
  have hn : ¬ nI 32 < 0 := by decide
  have hN : (nI 32).toNatClampNeg = 32 := by decide
  unfold multianewarray.make
  simp only [wp_bind', W.ite, hn, if_false, wp_pure', W.theClass, hk, hkind, Option.some.injEq, exists_eq_left', hN]
  refine W.newArray_of hk hkind hl hb h1 h2 rfl (fun acts' => ?_)
  have h9 := hq acts'
  unfold xm_row at h9
  rw [← arrV_new] at h9
  exact h9
theorem xm_new2 {cA comp c2 : ClassId} {kA kC : Class} (hkA : S.vm.classes[cA]? = some kA) (hkindA : kA.kind = .array comp (.array .long)) (hk : S.vm.classes[comp]? = some kC) (hkind : kC.kind = .array c2 .long) (hl : ¬ 32 > e.platform.arrayLengthLimit) (hb : ¬ 32 * componentBytes .long > e.platform.maxHeapBytes) (hl5 : ¬ 5 > e.platform.arrayLengthLimit) (hb5 : ¬ 5 * componentBytes (.array .long) > e.platform.maxHeapBytes)
    (h1 : S.heap.size + 6 ≤ e.platform.maxCells) (h2 : S.slotsUsed + 165 ≤ e.platform.maxSlots) {Q : Addr → Pre} (hq : ∀ d' acts', Q S.heap.size d' acts' (xm_st S cA comp S.heap.size 5)) : wp (multianewarray.make cA [nI 5, nI 32]) Q E e d acts S := by
  have hn : ¬ nI 5 < 0 := by decide
  have hN : (nI 5).toNatClampNeg = 5 := by decide
  have hz : (nI 5 == 0) = false := by decide
  rw [multianewarray.make]
  simp only [wp_bind', W.ite, hn, if_false, wp_pure', W.theClass, hkA, hkindA, Option.some.injEq, exists_eq_left', hN, hz]
  refine W.newArray_of hkA hkindA hl5 hb5 (by omega) (by omega) rfl (fun acts' => ?_)
  have e0 : S.pushCell ({ cls := cA, slots := Array.replicate 5 .null } : Cell) = xm_st S cA comp S.heap.size 0 := by
    show _ = S.pushCell (xm_out cA S.heap.size 0)
    rw [show ({ cls := cA, slots := Array.replicate 5 .null } : Cell) = arrV cA 5 (fun _ => .null) from arrV_new _ _ _]
    rfl
  rw [e0]
  simp only [wp_bind', wp_pure', Bool.false_eq_true, if_false, Std.Legacy.Range.forIn_eq_forIn_range']
  refine wp_forIn_inv (fun rest s' => ∃ i, i ≤ 5 ∧ rest = List.range' i (5 - i) ∧ s' = xm_st S cA comp S.heap.size i) _ _ ⟨0, by omega, rfl, rfl⟩ ?_ ?_
  · rintro x rest s' d' acts2 Q' ⟨i, hi, hr, rfl⟩ hnext
    have hlt : i < 5 := by
      rcases Nat.lt_or_ge i 5 with h | h
      · exact h
      · rw [show 5 - i = 0 by omega] at hr; cases hr
    rw [show 5 - i = (5 - (i + 1)) + 1 by omega, List.range'_succ] at hr
    obtain ⟨rfl, hr2⟩ := List.cons.inj hr
    obtain ⟨f1, f2, f3, f4, -, -⟩ := xm_facts S cA comp x
    simp only [wp_bind']
    refine xm_new1 (kC := kC) (by rw [f2]; exact hk) hkind hl hb (by rw [f1]; omega) (by rw [f3]; omega) (fun acts3 => ?_)
    simp only [wp_bind', W.writeLoc, wp_pure']
    refine ⟨xm_out cA S.heap.size x, ?_, (by intro h; cases h), (by show x < (arrV _ _ _).slots.size; rw [arrV_size]; exact hlt), ?_, hnext _ _ _ ⟨x + 1, hlt, hr2, ?_⟩⟩
    · rw [State.heap_pushCell_of_lt _ _ (show S.heap.size < (xm_st S cA comp S.heap.size x).heap.size by rw [f1]; omega)]; exact f4
    · have f2' : ((xm_st S cA comp S.heap.size x).pushCell (xm_row comp)).vm = S.vm := f2
      simp [State.fitsSlot, State.slotType?, f2, xm_out, arrV, hkA, hkindA, fits]
    · rw [f1, xm_next]; rfl
  · rintro s' d' acts2 ⟨i, hi, hr, rfl⟩
    have hi5 : i = 5 := by
      rcases Nat.lt_or_ge i 5 with h | h
      · rw [show 5 - i = (5 - (i + 1)) + 1 by omega, List.range'_succ] at hr; cases hr
      · omega
    subst hi5
    exact hq _ _
end XM2
section XM3
variable {p : Program} {l : Launch} {e : Env} {R : Room} {s : State} {m : MethodId} {args : Array Value} {below : List Frame} {meth : Method} {c : Code} {H : Heap} {locs : List Loc} {cells slots : Nat} {Q : State → Prop}
variable {cc : ByteArray} {pc : Nat} {ls : Array Slot} {rest : List Value}
theorem xm_top (S : State) (g : JFrame) (cA comp h : Nat) : ∀ i, xm_st (S.setTop g) cA comp h i = (xm_st S cA comp h i).setTop g
  | 0 => rfl
  | i + 1 => by
    show ((xm_st (S.setTop g) cA comp h i).pushCell _).setCell _ _ = _
    rw [xm_top S g cA comp h i]
    rfl
theorem xm_mna (hexec : p.tables.exec = Jvm.exec) (hb : c.code = cc) {own : String} {index : Nat} (hown : s.vm.findClass own = some m.cls) (hclink : (Cond.classLink own index ("[" ++ (FieldType.array .long).toString)).before args s = true) {comp cA : ClassId} {kA : Class} (hcomp : s.vm.findClass ("[" ++ FieldType.long.toString) = some comp) (hkA : s.vm.classes[cA]? = some kA) (hkindA : kA.kind = .array comp (.array .long)) (hnameA : s.vm.findClass ("[" ++ (FieldType.array .long).toString) = some cA) (harr : (Cond.arrayClass .long).before args s = true)
    (hdg : decode cc pc = .ok (.multianewarray index 2, 4)) (hsz : s.heap.size ≤ H.size) (hcells : cells + 6 ≤ R.cells) (hslots : slots + 165 ≤ R.slots)
    (kk : ∀ (H1 : Heap), H1.size = H.size + 6 → (∀ q : Nat, q < H.size → H1[q]? = H[q]?) → H1[H.size]? = some (arrV cA 5 (fun j => .ref (H.size + 1 + j))) → (∀ j : Nat, j < 5 → H1[H.size + 1 + j]? = some (arrV comp 32 (fun _ => .long 0))) →
      W p l e R s m args below meth c H1 locs (cells + 6) (slots + 165) Q (F0 m (pc + 4) ls (.ref H.size :: rest))) : W p l e R s m args below meth c H locs cells slots Q (F0 m pc ls (.int (nI 32) :: .int (nI 5) :: rest)) := by
  intro T hT X
  subst hT; subst hb
  have hpl : e.platform.magicAccessors = ({} : Platform).magicAccessors := by rw [X.admits.platform]
  obtain ⟨comp', kC, c2, hcomp', hkC, hkindC⟩ := Cond.arrayClass_spec harr
  have ec : comp' = comp := Option.some.inj (hcomp'.symm.trans hcomp)
  subst ec
  obtain ⟨c0, hfc0, hcl⟩ := Cond.classLink_spec hown hclink e.platform hpl
  have ec0 : c0 = cA := Option.some.inj (hfc0.symm.trans hnameA)
  subst ec0
  obtain ⟨hg₁, hwarm₁, -⟩ := State.classEntry (e := e) X.warmed hcl
  generalize T.vm.noted m.cls index (.cls c0) = vm₁ at hg₁ hwarm₁
  obtain ⟨kA₁, hkA₁, heA⟩ := hwarm₁.alike.2.2 _ _ hkA
  obtain ⟨kC₁, hkC₁, heC⟩ := hwarm₁.alike.2.2 _ _ hkC
  obtain ⟨hr1, hr2⟩ := X.roomAbove hcells hslots
  have hlim := Launch.admits_arrayLengthLimit X.admits
  have hmax := Launch.admits_maxHeapBytes X.admits
  have XF := xm_stand (X.noted hwarm₁) hsz c0 comp' 5 (by omega)
  obtain ⟨f1, f2, f3, f4, f5, f6⟩ := xm_facts (T.setVm vm₁) c0 comp' 5
  obtain ⟨t, a1, b1⟩ := kk (xm_st (T.setVm vm₁) c0 comp' T.heap.size 5).heap f1 f5 (by
    have h9 : (xm_st (T.setVm vm₁) c0 comp' T.heap.size 5).heap[T.heap.size]? = some (xm_out c0 T.heap.size 5) := f4
    rw [h9]
    unfold xm_out
    refine congrArg some (congrArg (fun z => ({ cls := c0, slots := z, vm := .none } : Cell)) ?_)
    apply Array.ext
    · simp
    · intro j h1 h2
      have hj : j < 5 := by simpa using h1
      simp [hj]) f6 _ rfl (by
    have h9 := XF
    rw [show cells + 1 + 5 = cells + 6 by omega, show slots + 5 + 32 * 5 = slots + 165 by omega] at h9
    exact h9)
  refine ⟨t, ?_, b1⟩
  jvm_step X.here [hexec, hdg]
  simp only [multianewarray.sem, wp_bind', W.resolveClassAt_links (State.method?_setTop (F0 m pc ls (.int (nI 32) :: .int (nI 5) :: rest)) X.here.top) hg₁]
  rw [W.popN, if_neg (by decide)]
  refine ⟨F0 m pc ls (.int (nI 32) :: .int (nI 5) :: rest), State.topJava?_setTop' (s := T.setVm vm₁) _ X.here.top, [.int (nI 5), .int (nI 32)], rest, rfl, rfl, ?_⟩
  simp only [List.mapM_cons, List.mapM_nil, wp_bind', wp_pure']
  refine xm_new2 (kA := kA₁) (kC := kC₁) (comp := comp') (c2 := c2) hkA₁ (by rw [heA]; exact hkindA) hkC₁ (by rw [heC]; exact hkindC) (by rw [hlim]; decide) (by rw [hmax]; decide) (by rw [hlim]; decide) (by rw [hmax]; decide) (by show T.heap.size + 6 ≤ _; exact hr1) (by show T.slotsUsed + 165 ≤ _; exact hr2) (fun d' acts' => ?_)
  have eS : ((T.setTop (F0 m pc ls (.int (nI 32) :: .int (nI 5) :: rest))).setVm vm₁).setTop ({ method := m, pc := pc, locals := ls, stack := rest, locked := none } : JFrame) = (T.setVm vm₁).setTop (F0 m pc ls rest) := by
    show ((T.setVm vm₁).setTop _).setTop _ = _
    rw [State.setTop_setTop]
  rw [eS, xm_top, State.heap_setTop]
  show wp _ _ _ _ _ _ ((xm_st (T.setVm vm₁) c0 comp' T.heap.size 5).setTop (F0 m pc ls rest))
  have htop : (xm_st (T.setVm vm₁) c0 comp' T.heap.size 5).topJava?.isSome = true := XF.here.top
  simp only [wp_bind', W.mark, W.pushRef, Option.some.injEq, State.setTop_setTop]
  refine ⟨F0 m pc ls rest, State.topJava?_setTop' _ htop, fun acts => ?_⟩
  simp [jvm, htop]
  exact a1
def xm_ws (k : Nat → ClassId) (q : Nat) : va_W := [(q, .inl (k 2, 5, .inr (.inr (.inr (.inr (fun i => some (q + 1 + i))))))), (q + 1, .inl (k 1, 32, .inr (.inl (fun _ => 0)))), (q + 2, .inl (k 1, 32, .inr (.inl (fun _ => 0)))), (q + 3, .inl (k 1, 32, .inr (.inl (fun _ => 0)))), (q + 4, .inl (k 1, 32, .inr (.inl (fun _ => 0)))), (q + 5, .inl (k 1, 32, .inr (.inl (fun _ => 0))))]
theorem xm_wsi {k : Nat → ClassId} {q i : Nat} {x : Nat × va_E} (h : (xm_ws k q)[i]? = some x) : i < 6 ∧ x.1 = q + i := by
  have hi : i < 6 := (List.getElem?_eq_some_iff.mp h).1
  refine ⟨hi, ?_⟩
  rcases (show i = 0 ∨ i = 1 ∨ i = 2 ∨ i = 3 ∨ i = 4 ∨ i = 5 by omega) with rfl | rfl | rfl | rfl | rfl | rfl <;> (cases h; rfl)
/-- the class of long[][] has long[] for its component -/
def xAO (k : Nat → ClassId) (U : State) : Prop := ∃ kA : Class, U.vm.classes[k 2]? = some kA ∧ kA.kind = .array (k 1) (.array .long)
theorem xAO.moved {k : Nat → ClassId} {u U : State} (hvm : u.vm.Alike U.vm) (h : xAO k u) : xAO k U := by
  obtain ⟨kA, h1, h2⟩ := h
  obtain ⟨k', hk', he⟩ := hvm.2.2 _ _ h1
  exact ⟨k', hk', by rw [he]; exact h2⟩
theorem xm_new {D : va_G} {cl : List vw_C} {ws : va_W} {A : Nat → Prop} {k : Nat → ClassId} (hexec : p.tables.exec = Jvm.exec) (hb : c.code = cc) {own : String} {index : Nat} (hown : s.vm.findClass own = some m.cls) (hclink : (Cond.classLink own index ("[" ++ (FieldType.array .long).toString)).before args s = true) (hAO : xAO k s) (harr : (Cond.arrayClass .long).before args s = true)
    (hK : va_K D cl (kT k) s) (hP : va_P D cl ws H) (hD : va_D A ws) (hS : va_S A s.heap H locs) (hA : ∀ q : Nat, s.heap.size ≤ q → A q) (hdg : decode cc pc = .ok (.multianewarray index 2, 4)) (hcells : cells + 6 ≤ R.cells) (hslots : slots + 165 ≤ R.slots)
    (kk : ∀ (q : Nat) (H1 : Heap), va_P D cl (ws ++ xm_ws k q) H1 → va_D A (ws ++ xm_ws k q) → va_S A s.heap H1 locs → W p l e R s m args below meth c H1 locs (cells + 6) (slots + 165) Q (F0 m (pc + 4) ls (.ref q :: rest))) : W p l e R s m args below meth c H locs cells slots Q (F0 m pc ls (.int (nI 32) :: .int (nI 5) :: rest)) := by
  obtain ⟨kA, hkA, hkindA⟩ := hAO
  refine xm_mna hexec hb hown hclink (comp := k 1) (cA := k 2) (kA := kA) (hK.2 1 _ rfl).2 hkA hkindA (hK.2 2 _ rfl).2 harr hdg hS.1 hcells hslots (fun H1 z1 o1 e1 r1 => ?_)
  refine kk H.size H1 ((hP.kept (fun _ x hx => o1 x.1 ((hP _ x hx).lt))).app (fun i x hx => ?_)) (hD.app ⟨fun i j x y hx hy e => ?_, fun i x hx => ?_⟩ (fun i j x y hx hy e => ?_)) ⟨by rw [z1]; exact Nat.le_trans hS.1 (by omega), fun x h1 h2 => (o1 x (Nat.lt_of_lt_of_le h1 hS.1)).trans (hS.2.1 x h1 h2), hS.2.2⟩
  · have hi := (xm_wsi hx).1
    rcases (show i = 0 ∨ i = 1 ∨ i = 2 ∨ i = 3 ∨ i = 4 ∨ i = 5 by omega) with rfl | rfl | rfl | rfl | rfl | rfl
    · cases hx; exact e1
    · cases hx; exact r1 0 (by omega)
    · cases hx; exact r1 1 (by omega)
    · cases hx; exact r1 2 (by omega)
    · cases hx; exact r1 3 (by omega)
    · cases hx; exact r1 4 (by omega)
  · have h1 := (xm_wsi hx).2
    have h2 := (xm_wsi hy).2
    omega
  · rw [(xm_wsi hx).2]; exact hA _ (Nat.le_trans hS.1 (by omega))
  · have h1 := (hP i x hx).lt
    have h2 := (xm_wsi hy).2
    omega
end XM3
