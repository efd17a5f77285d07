section
-- ===== PART A: goes FIRST, ahead of the names: the tables' words, and 'selects' of the private methods out of them =====
/-- a private method of a class that the tables say can be made, by its rows of tables_1 -/
def lw_okq (q : MethodName × Nat) : Prop := (q.1.cls ≠ "java/lang/invoke/MethodHandle" ∧ q.1.cls ≠ "java/lang/invoke/VarHandle") ∧ Cond.instantiable q.1.cls q.2 ∈ tables_1 ∧ Cond.privateMethod q.1 ∈ tables_1 ∧ Cond.instanceMethod q.1 ∈ tables_1
theorem lw_p0 : lw_okq (⟨"CommitDesk", "transactionOf", "(I)LCommitDesk$Transaction;"⟩, 5) := ⟨⟨by decide +kernel, by decide +kernel⟩, List.mem_of_getElem? (i := 13) (by decide +kernel), List.mem_of_getElem? (i := 76) (by decide +kernel), List.mem_of_getElem? (i := 77) (by decide +kernel)⟩
theorem lw_p1 : lw_okq (⟨"java/lang/Throwable", "fillInStackTrace", "(I)Ljava/lang/Throwable;"⟩, 6) := ⟨⟨by decide +kernel, by decide +kernel⟩, List.mem_of_getElem? (i := 119) (by decide +kernel), List.mem_of_getElem? (i := 117) (by decide +kernel), List.mem_of_getElem? (i := 118) (by decide +kernel)⟩
theorem lw_p2 : lw_okq (⟨"CommitDesk", "openTransactionAt", "(II)LCommitDesk$Transaction;"⟩, 5) := ⟨⟨by decide +kernel, by decide +kernel⟩, List.mem_of_getElem? (i := 13) (by decide +kernel), List.mem_of_getElem? (i := 182) (by decide +kernel), List.mem_of_getElem? (i := 183) (by decide +kernel)⟩
theorem lw_p3 : lw_okq (⟨"CommitDesk", "requireCell", "(I)V"⟩, 5) := ⟨⟨by decide +kernel, by decide +kernel⟩, List.mem_of_getElem? (i := 13) (by decide +kernel), List.mem_of_getElem? (i := 186) (by decide +kernel), List.mem_of_getElem? (i := 187) (by decide +kernel)⟩
theorem lw_p4 : lw_okq (⟨"CommitDesk", "openTransactionOf", "(I)LCommitDesk$Transaction;"⟩, 5) := ⟨⟨by decide +kernel, by decide +kernel⟩, List.mem_of_getElem? (i := 13) (by decide +kernel), List.mem_of_getElem? (i := 206) (by decide +kernel), List.mem_of_getElem? (i := 207) (by decide +kernel)⟩
theorem lw_p5 : lw_okq (⟨"CommitDesk", "endStale", "(LCommitDesk$Transaction;)V"⟩, 5) := ⟨⟨by decide +kernel, by decide +kernel⟩, List.mem_of_getElem? (i := 13) (by decide +kernel), List.mem_of_getElem? (i := 226) (by decide +kernel), List.mem_of_getElem? (i := 227) (by decide +kernel)⟩
theorem lw_p6 : lw_okq (⟨"CommitDesk$Transaction", "putInPart", "(IIJ)V"⟩, 6) := ⟨⟨by decide +kernel, by decide +kernel⟩, List.mem_of_getElem? (i := 22) (by decide +kernel), List.mem_of_getElem? (i := 265) (by decide +kernel), List.mem_of_getElem? (i := 266) (by decide +kernel)⟩
theorem lw_p7 : lw_okq (⟨"CommitDesk", "transactionWithSeveralParts", "(I)LCommitDesk$Transaction;"⟩, 5) := ⟨⟨by decide +kernel, by decide +kernel⟩, List.mem_of_getElem? (i := 13) (by decide +kernel), List.mem_of_getElem? (i := 292) (by decide +kernel), List.mem_of_getElem? (i := 293) (by decide +kernel)⟩
theorem lw_p8 : lw_okq (⟨"CommitDesk", "change", "(IJ)V"⟩, 5) := ⟨⟨by decide +kernel, by decide +kernel⟩, List.mem_of_getElem? (i := 13) (by decide +kernel), List.mem_of_getElem? (i := 320) (by decide +kernel), List.mem_of_getElem? (i := 321) (by decide +kernel)⟩
theorem lw_p9 : lw_okq (⟨"CommitDesk", "openTotal", "()I"⟩, 5) := ⟨⟨by decide +kernel, by decide +kernel⟩, List.mem_of_getElem? (i := 13) (by decide +kernel), List.mem_of_getElem? (i := 385) (by decide +kernel), List.mem_of_getElem? (i := 386) (by decide +kernel)⟩
theorem lw_p10 : lw_okq (⟨"CommitDeskModel", "fails", "(ZI)Z"⟩, 11) := ⟨⟨by decide +kernel, by decide +kernel⟩, List.mem_of_getElem? (i := 389) (by decide +kernel), List.mem_of_getElem? (i := 445) (by decide +kernel), List.mem_of_getElem? (i := 446) (by decide +kernel)⟩
theorem lw_p11 : lw_okq (⟨"CommitDeskModel", "last", "(II)I"⟩, 11) := ⟨⟨by decide +kernel, by decide +kernel⟩, List.mem_of_getElem? (i := 389) (by decide +kernel), List.mem_of_getElem? (i := 449) (by decide +kernel), List.mem_of_getElem? (i := 450) (by decide +kernel)⟩
theorem lw_p12 : lw_okq (⟨"CommitDeskModel", "isStale", "(I)Z"⟩, 11) := ⟨⟨by decide +kernel, by decide +kernel⟩, List.mem_of_getElem? (i := 389) (by decide +kernel), List.mem_of_getElem? (i := 461) (by decide +kernel), List.mem_of_getElem? (i := 462) (by decide +kernel)⟩
theorem lw_p13 : lw_okq (⟨"CommitDeskModel", "copy", "(II)V"⟩, 11) := ⟨⟨by decide +kernel, by decide +kernel⟩, List.mem_of_getElem? (i := 389) (by decide +kernel), List.mem_of_getElem? (i := 473) (by decide +kernel), List.mem_of_getElem? (i := 474) (by decide +kernel)⟩
theorem lw_p14 : lw_okq (⟨"CommitDeskModel", "change", "(IJ)V"⟩, 11) := ⟨⟨by decide +kernel, by decide +kernel⟩, List.mem_of_getElem? (i := 389) (by decide +kernel), List.mem_of_getElem? (i := 489) (by decide +kernel), List.mem_of_getElem? (i := 490) (by decide +kernel)⟩
def lw_privs_1 : List (MethodName × Nat) := [(⟨"CommitDesk", "transactionOf", "(I)LCommitDesk$Transaction;"⟩, 5), (⟨"java/lang/Throwable", "fillInStackTrace", "(I)Ljava/lang/Throwable;"⟩, 6), (⟨"CommitDesk", "openTransactionAt", "(II)LCommitDesk$Transaction;"⟩, 5), (⟨"CommitDesk", "requireCell", "(I)V"⟩, 5), (⟨"CommitDesk", "openTransactionOf", "(I)LCommitDesk$Transaction;"⟩, 5), (⟨"CommitDesk", "endStale", "(LCommitDesk$Transaction;)V"⟩, 5), (⟨"CommitDesk$Transaction", "putInPart", "(IIJ)V"⟩, 6), (⟨"CommitDesk", "transactionWithSeveralParts", "(I)LCommitDesk$Transaction;"⟩, 5), (⟨"CommitDesk", "change", "(IJ)V"⟩, 5), (⟨"CommitDesk", "openTotal", "()I"⟩, 5), (⟨"CommitDeskModel", "fails", "(ZI)Z"⟩, 11), (⟨"CommitDeskModel", "last", "(II)I"⟩, 11), (⟨"CommitDeskModel", "isStale", "(I)Z"⟩, 11), (⟨"CommitDeskModel", "copy", "(II)V"⟩, 11), (⟨"CommitDeskModel", "change", "(IJ)V"⟩, 11)]
theorem lw_r1 : ∀ q ∈ lw_privs_1, lw_okq q := List.forall_mem_cons.mpr ⟨lw_p0, List.forall_mem_cons.mpr ⟨lw_p1, List.forall_mem_cons.mpr ⟨lw_p2, List.forall_mem_cons.mpr ⟨lw_p3, List.forall_mem_cons.mpr ⟨lw_p4, List.forall_mem_cons.mpr ⟨lw_p5, List.forall_mem_cons.mpr ⟨lw_p6, List.forall_mem_cons.mpr ⟨lw_p7, List.forall_mem_cons.mpr ⟨lw_p8, List.forall_mem_cons.mpr ⟨lw_p9, List.forall_mem_cons.mpr ⟨lw_p10, List.forall_mem_cons.mpr ⟨lw_p11, List.forall_mem_cons.mpr ⟨lw_p12, List.forall_mem_cons.mpr ⟨lw_p13, List.forall_mem_cons.mpr ⟨lw_p14, fun _ h => absurd h List.not_mem_nil⟩⟩⟩⟩⟩⟩⟩⟩⟩⟩⟩⟩⟩⟩⟩
def lw_privs : List (MethodName × Nat) := lw_privs_1
def lw_tbl : List Cond := k2_sels lw_privs ++ tables_1
theorem lw_privs_ok : ∀ q ∈ lw_privs, lw_okq q := lw_r1
end
section
/-! Methods that may throw: a contract whose outcome is free, the call of such a method (both outcomes), the way out of a method that doesn't catch, the throw of a new object, the catch in a table of handlers. -/
section XT0
def xt_End (st t : State) (L : List Loc) (k n : Nat) : Prop := st.WarmedH t.vm ∧ st.sameButNew ({ t with vm := st.vm } : State) L k n
/-- the contract of a method that may throw: as Met, but the outcome may be of either kind -/
def xt_Met (l : Launch) (y : MethodName) (ws : List Cond) (rm : Room) (Pc : Array Value → State → Prop) (Qc : Array Value → State → Outcome → State → Prop) (mc ms : Nat) (free : Addr → Prop) : Prop :=
  MetFree l y (headSpec ws rm) Pc (fun _ _ _ _ _ => True) (fun a st o t => Qc a st o t ∧ ∃ L, xt_End st t L mc ms ∧ ∀ q ∈ L, free q.base)
def xt_MQ (below : List Frame) (Qc : Array Value → State → Outcome → State → Prop) (a : Array Value) (s : State) (mc ms : Nat) (free : Addr → Prop) : State → Prop := fun t =>
  ∃ o, t.status = .running ∧ Ended t below o ∧ Qc a s o t ∧ ∃ L, xt_End s t L mc ms ∧ ∀ q ∈ L, free q.base
theorem xt_of_MQ {below : List Frame} {Qc : Array Value → State → Outcome → State → Prop} {a : Array Value} {s : State} {mc ms : Nat} {free : Addr → Prop} {t : State} (h : MQ below Qc a s mc ms free t) : xt_MQ below Qc a s mc ms free t := by
  obtain ⟨o, h1, h2, h3, L, ⟨-, h4, h5⟩, h6⟩ := h
  exact ⟨o, h1, h2, h3, L, ⟨h4, h5⟩, h6⟩
end XT0
section XT1
variable {p : Program} {l : Launch} {e : Env} {R : Room} {s : State} {m : MethodId} {args : Array Value} {below : List Frame} {meth : Method} {c : Code} {H : Heap} {locs : List Loc} {cells slots : Nat} {Q : State → Prop}
theorem xt_mono {Q2 : State → Prop} {g : JFrame} (h : ∀ t, Q t → Q2 t) (k : W p l e R s m args below meth c H locs cells slots Q g) : W p l e R s m args below meth c H locs cells slots Q2 g := by
  intro T hT X
  obtain ⟨t, a, b⟩ := k T hT X
  exact ⟨t, a, h t b⟩
/-- an end by return, in a method that may throw -/
theorem xt_ret {Qc : Array Value → State → Outcome → State → Prop} {free : Addr → Prop} {g : JFrame} (k : W p l e R s m args below meth c H locs cells slots (MQ below Qc args s cells slots free) g) : W p l e R s m args below meth c H locs cells slots (xt_MQ below Qc args s cells slots free) g := xt_mono (fun _ h => xt_of_MQ h) k
theorem xt_ofW {y : MethodName} {ws ws' : List Cond} {rm : Room} {Pc : Array Value → State → Prop} {Qc : Array Value → State → Outcome → State → Prop} {mc ms : Nat} {free : Addr → Prop} {cc : ByteArray} {maxL : Nat} {ret : Option FieldType}
    (hy : plainName y.cls = true) (hw : ws = Cond.code y cc maxL ret :: ws')
    (body : ∀ p e s m args below meth c s₁, BodyLoose p l y (headSpec ws rm) cc maxL ret e s m args below meth c s₁ → c.maxLocals = maxL → (∀ x ∈ c.exceptionTable.toList, ∀ pc : Nat, covers x pc = false) → Pc args s →
      W p l e (headSpec ws rm).room s m args below meth c s.heap [] 0 0 (xt_MQ below Qc args s mc ms free) (entryFrame m args maxL)) : xt_Met l y ws rm Pc Qc mc ms free := by
  have hmem : Cond.code y cc maxL ret ∈ ws := by rw [hw]; exact List.mem_cons_self
  refine MetFree.of_bodyS (code := cc) (maxLocals := maxL) (ret := ret) hy ?_ ?_
  · intro args s m h hn
    obtain ⟨mY, cY, h1, h2, h3, h4, h5, h6, -, -⟩ := Cond.code_spec hn (atoms_spec (ws := ws) h _ hmem)
    exact ⟨mY, cY, h1, h2, h3, h4, h5, h6⟩
  · intro p e s m args below meth c s₁ B hml hP _
    have hempty := B.noHandlers (atoms_spec (ws := ws) B.pre _ hmem)
    have hnil : c.exceptionTable.toList = [] := by
      have h0 : c.exceptionTable.size = 0 := by simpa [Array.isEmpty] using hempty
      exact List.eq_nil_of_length_eq_zero (by simpa using h0)
    have hh0 : s₁.heap = s.heap := by rw [B.state]; rfl
    obtain ⟨t, a1, o, b1, b2, b3⟩ := body p e s m args below meth c s₁ B hml (fun x hx => by rw [hnil] at hx; cases hx) hP s₁ hh0 (Stand.of_body B)
    exact ⟨t, o, a1, b1, b2, ⟨b3.1, b3.2⟩⟩
/-- how a call goes on: behind the call, or with the thrown object over the caller's frame -/
def xt_Go (p : Program) (e : Env) (below : List Frame) (S T2 : State) (g : JFrame) (len : Nat) : Outcome → Prop
  | .returned v => Steps p.tables e below S (T2.setTop { g with pc := g.pc + len, stack := v.toList ++ g.stack })
  | .threw x => Steps p.tables e below S ((T2.setTop g).pushFrame (.throwing x))
theorem xt_call {y : MethodName} {ws : List Cond} {rm : Room} {Pc : Array Value → State → Prop} {Qc : Array Value → State → Outcome → State → Prop} {mc ms maxL len : Nat} {free : Addr → Prop}
    (hM : xt_Met l y ws rm Pc Qc mc ms free) (hbl : FrameBlind Pc) (hrc : rm.cells = mc) (hrs : rm.slots = ms) (hfr : rm.frames + 1 ≤ R.frames) (hlo : 8 + (maxL + 11) + rm.locals ≤ R.locals)
    (hws : ∀ w ∈ ws, ∀ (a' : Array Value) (U : State), s.WarmedH U.vm → w.before a' U = true)
    (hcd : ∀ (U : State) (mk : MethodId), s.WarmedH U.vm → U.methodNamed? y = some mk → ∃ (mY : Method) (cY : Code), U.vm.method? mk = some mY ∧ mY.code = some cY ∧ cY.maxLocals = maxL)
    (hini : ∀ (a' : Array Value) (U : State), s.WarmedH U.vm → (Cond.initialized y.cls).before a' U = true)
    {T : State} (X : Stand p l e R s m args below meth c T locs cells slots) {g : JFrame} (hg : g.method = m) (hsize : g.locals.size = c.maxLocals) {ig : Instr} (hdg : decode c.code g.pc = .ok (ig, len))
    (hW : 2 * g.monitorRoom + (g.stack.map fun v => v.category).sum ≤ 8) {mk : MethodId} (hn : T.methodNamed? y = some mk) {a : Array Value} (hcells : cells + mc ≤ R.cells) (hslots : slots + ms ≤ R.slots) (hP : Pc a T) :
    ∃ (o : Outcome) (t T2 : State) (L : List Loc), Stand p l e R s m args below meth c T2 (locs ++ L) (cells + mc) (slots + ms) ∧ (∀ q ∈ L, free q.base) ∧ T2.heap = t.heap ∧ T2.vm = t.vm ∧ Qc a (T.calling g mk a) o t ∧
      xt_Go p e below (doInvoke e (T.setTop g) [] mk a).1 T2 g len o := by
  obtain ⟨mY, cY, hmY, hcY, hlY⟩ := hcd T mk X.warmed hn
  obtain ⟨kY, hkY, -⟩ := className_of_methodNamed hn
  have hinitY : kY.init = .initialized := Cond.initialized_spec (findClass_of_methodNamed hn) hkY (hini a T X.warmed)
  have h : At T g.method c below := by rw [hg]; exact X.here
  have hc1 : cells + (headSpec ws rm).room.cells ≤ R.cells := by show cells + rm.cells ≤ R.cells; omega
  have hs1 : slots + (headSpec ws rm).room.slots ≤ R.slots := by show slots + rm.slots ≤ R.slots; omega
  have hl1 : 2 * g.monitorRoom + (g.stack.map fun v => v.category).sum + (cY.maxLocals + 11) + (headSpec ws rm).room.locals ≤ R.locals := by
    show 2 * g.monitorRoom + (g.stack.map fun v => v.category).sum + (cY.maxLocals + 11) + rm.locals ≤ R.locals
    rw [hlY]; omega
  have happ : (headSpec ws rm).appliesLoose y e.platform (T.calling g mk a) = true :=
    Spec.appliesLoose_calling (g := g) h hdg hn hkY hinitY
      (X.room_calling (g := g) (R' := (headSpec ws rm).room) hsize hmY hcY hfr hl1 hc1 hs1) (atoms_intro fun w hw => hws w hw _ _ X.warmed)
  obtain ⟨mid, hmid⟩ := h.above
  have hfr2 : (T.setTop g).frames = (.java g :: mid) ++ below := by rw [State.frames_setTop' g h.top, hmid]; rfl
  obtain ⟨o, s₂, hsteps, -, hend, hq0⟩ := Steps.callFree hM p X.admits X.cas X.clock (acts := []) hfr2 happ (hbl _ _ _ _ hP) trivial
  have hq1 : Qc a (T.calling g mk a) o s₂ ∧ ∃ L, xt_End (T.calling g mk a) s₂ L mc ms ∧ ∀ q ∈ L, free q.base := hq0
  obtain ⟨hq', L, ⟨hW₂, e2, q2, q3, q4, q5, q6⟩, hL⟩ := hq1
  rw [State.frames_setTop' g h.top] at hend
  have e3 : s₂ = ({ (T.calling g mk a).setFrames s₂.frames with heap := s₂.heap, slotsUsed := s₂.slotsUsed } : State).setVm s₂.vm := by
    have h9 : s₂ = ({ s₂ with vm := (T.calling g mk a).vm } : State).setVm s₂.vm := rfl
    rw [e2] at h9
    exact h9
  have hW' : T.WarmedH s₂.vm := hW₂
  obtain ⟨g₀, hg0⟩ := Option.isSome_iff_exists.mp h.top
  obtain ⟨r, hr⟩ := State.topJava?_eq_some.mp hg0
  have hr' : (({ T with heap := s₂.heap, slotsUsed := s₂.slotsUsed } : State).setVm s₂.vm).frames = .java g₀ :: r := hr
  have hsame : T.sameButNew ({ T with heap := s₂.heap, slotsUsed := s₂.slotsUsed } : State) L mc ms := by
    refine ⟨?_, q2, q3, q4, q5, q6⟩
    obtain ⟨t, ht, -⟩ := State.frames_cons hr
    show ({ T with heap := s₂.heap, slotsUsed := s₂.slotsUsed } : State) = { T.setFrames T.frames with heap := s₂.heap, slotsUsed := s₂.slotsUsed }
    rw [State.setFrames_self ht]
  subst hg
  refine ⟨o, s₂, ({ T with heap := s₂.heap, slotsUsed := s₂.slotsUsed } : State).setVm s₂.vm, L,
    ⟨X.admits, X.cas, X.clock, X.frames, X.room, X.hears, X.method, X.code, (X.here.setHeapUsed s₂.heap s₂.slotsUsed).setVm hW'.alike, X.tail, State.WarmedH.trans X.warmed hW', X.limits, X.bytes, X.same.trans (hsame.setVm s.vm)⟩, hL, rfl, rfl, hq', ?_⟩
  cases o with
  | returned v =>
    obtain ⟨c₂, i₂, len₂, hc₂, hd₂, hf₂⟩ := hend
    have hcc : c₂ = c := by
      have h1 : s₂.code? g.method = T.code? g.method := by
        rw [State.code?_eq, State.code?_eq, hW'.alike.method?]
      exact Option.some.inj (hc₂.symm.trans (h1.trans h.code))
    subst hcc
    have hlen : len₂ = len := by rw [hdg] at hd₂; cases hd₂; rfl
    subst hlen
    have hs₂ : s₂ = (({ T with heap := s₂.heap, slotsUsed := s₂.slotsUsed } : State).setVm s₂.vm).setTop { g with pc := g.pc + len₂, stack := v.toList ++ g.stack } := by
      refine e3.trans ?_
      rw [hf₂, State.calling_eq h.top, State.setFrames_setFrames, State.setTop_of_frames _ hr', hr]
      rfl
    show Steps p.tables e below _ ((({ T with heap := s₂.heap, slotsUsed := s₂.slotsUsed } : State).setVm s₂.vm).setTop { g with pc := g.pc + len₂, stack := v.toList ++ g.stack })
    rw [← hs₂]
    exact hsteps
  | threw x =>
    have hf₂ : s₂.frames = .throwing x :: .java g :: T.frames.tail := hend
    have hs₂ : s₂ = ((({ T with heap := s₂.heap, slotsUsed := s₂.slotsUsed } : State).setVm s₂.vm).setTop g).pushFrame (.throwing x) := by
      refine e3.trans ?_
      rw [hf₂, State.calling_eq h.top, State.setFrames_setFrames, State.pushFrame, State.frames_setTop _ hr', State.setTop_of_frames _ hr', State.setFrames_setFrames, hr]
      rfl
    show Steps p.tables e below _ (((({ T with heap := s₂.heap, slotsUsed := s₂.slotsUsed } : State).setVm s₂.vm).setTop g).pushFrame (.throwing x))
    rw [← hs₂]
    exact hsteps
/-- behind a call at the frame g: with both outcomes -/
def xt_On (p : Program) (e : Env) (below : List Frame) (T : State) (g : JFrame) (T2 : State) (rest : List Value) : Outcome → Prop
  | .returned v => Goes p e below T g T2 { g with pc := g.pc + 3, stack := v.toList ++ rest }
  | .threw x => ∀ target, Steps p.tables e below ((T2.setTop { g with stack := rest }).pushFrame (.throwing x)) target → Steps p.tables e below (T.setTop g) target
def xt_Run (p : Program) (l : Launch) (e : Env) (R : Room) (s : State) (m : MethodId) (args : Array Value) (below : List Frame) (meth : Method) (c : Code) (H : Heap) (locs : List Loc) (cells slots mc ms : Nat) (g : JFrame) (rest : List Value) (Qa : State → Outcome → State → Prop) (free : Addr → Prop) : Prop :=
  ∀ T : State, T.heap = H → Stand p l e R s m args below meth c T locs cells slots → ∃ (o : Outcome) (st₀ t T2 : State) (L : List Loc), st₀.heap = H ∧ Stand p l e R s m args below meth c T2 (locs ++ L) (cells + mc) (slots + ms) ∧ (∀ q ∈ L, free q.base) ∧ T2.heap = t.heap ∧ T2.vm = t.vm ∧ Qa st₀ o t ∧ xt_On p e below T g T2 rest o
end XT1
section XT2
variable {p : Program} {l : Launch} {e : Env} {R : Room} {s : State} {m : MethodId} {args : Array Value} {below : List Frame} {meth : Method} {c : Code} {H : Heap} {locs : List Loc} {cells slots : Nat} {Q : State → Prop}
variable {y : MethodName} {bytes cc : ByteArray} {maxL nL mc ms n index : Nat} {ret : Option FieldType} {ws : List Cond} {rm : Room} {Pc : Array Value → State → Prop} {Qc : Array Value → State → Outcome → State → Prop} {free : Addr → Prop} {Ts : List Cond} {own C host : String} {b : Addr} {As rest : List Value} {g : JFrame}
theorem xt_ini {cl : String} (hini : (Cond.initialized cl).before args s = true) : ∀ (a' : Array Value) (U : State), s.WarmedH U.vm → (Cond.initialized cl).before a' U = true := fun a' U hW => word_at hW (Or.inl (by first | rfl | simp [Cond.onTables, Cond.keeps, Cond.steady])) hini
theorem xt_cd (hws : ∀ w ∈ ws, ∀ (a' : Array Value) (U : State), s.WarmedH U.vm → w.before a' U = true) (hcw : Cond.code y bytes maxL ret ∈ ws) : ∀ (U : State) (mk : MethodId), s.WarmedH U.vm → U.methodNamed? y = some mk → ∃ (mY : Method) (cY : Code), U.vm.method? mk = some mY ∧ mY.code = some cY ∧ cY.maxLocals = maxL := fun U mk hW hn => by
  obtain ⟨mY, cY, h1, h2, -, h3, -⟩ := Cond.code_spec hn (hws _ hcw #[] U hW)
  exact ⟨mY, cY, h1, h2, h3⟩
/-- invokevirtual of a method that may throw -/
theorem xt_runV (S : CallFix p m c cc nL s args Ts own) (hM : xt_Met l y ws rm Pc Qc mc ms free) (cw : CallW R s args own C index y bytes maxL ret ws rm mc ms n) (hp : PreV s H C b Pc As)
    (hg : g.method = m) (hn : As.length = n) (hsize : g.locals.size = nL) (hstack : g.stack = As.reverse ++ .ref b :: rest) (hW : 2 * g.monitorRoom + (rest.map fun v => v.category).sum ≤ 8) (hdg : decode cc g.pc = .ok (.invokevirtual index, 3)) (hf : cells + mc ≤ R.cells ∧ slots + ms ≤ R.slots) :
    xt_Run p l e R s m args below meth c H locs cells slots mc ms g rest (Qc (Value.ref b :: As).toArray) free := by
  obtain ⟨⟨hrc, hrs, hfr, hlo, hws, hcw, hcode, hini, hy, hlen, hl⟩, hinst, hsel⟩ := cw
  obtain ⟨hx, hb, hml, ho, -⟩ := S
  obtain ⟨hbl, ⟨cellB, hcB, hoB, hclB⟩, hPc⟩ := hp
  intro T hT X
  obtain ⟨mk, methM, hnamed, hmethM, hstM, habM⟩ := Cond.instanceMethod_spec hinst
  obtain ⟨methM', cM, hmethM', -, -, -, -, -, -, hsigM⟩ := Cond.code_spec hnamed hcode
  cases hmethM.symm.trans hmethM'
  obtain ⟨c2, r2, m2, q1, q2, q3, q4, kP, hkP, hkPi⟩ := Cond.selects_spec hsel
  cases hclB.symm.trans q1
  cases (State.methodFound?_of_named hnamed hy).symm.trans q2
  cases hnamed.symm.trans q3
  have hselP : selectMethod e.platform s.vm cellB.cls mk = .method mk := by rw [Launch.admits_selectMethod X.admits]; exact q4
  obtain ⟨vm₁, X₁, hstep₁⟩ := X.invokevirtual hx ho hl hnamed hmethM hstM hkP hkPi hy (a := b) (cell := cellB) (by rw [hT]; exact hcB)
    (fun z h => by rw [h] at hoB; cases hoB) hselP hmethM habM hkP hkPi (g := g) hg (argsL := As) (rest := rest) (hn.trans (hlen _ hsigM)) hstack (by rw [hb]; exact hdg)
  obtain ⟨o, t, T2, L, X', hL, e1, e2, hq, hgo⟩ := xt_call hM hbl hrc hrs hfr hlo hws (xt_cd hws hcw) (xt_ini hini) X₁ (g := { g with stack := rest }) hg (hsize.trans hml.symm) (ig := .invokevirtual index) (len := 3) (by rw [hb]; exact hdg) hW (X₁.named hnamed) (a := (Value.ref b :: As).toArray) hf.1 hf.2 (hPc (T.setVm vm₁) hT X₁.warmed)
  refine ⟨o, (T.setVm vm₁).calling { g with stack := rest } mk (Value.ref b :: As).toArray, t, T2, L, hT, X', hL, e1, e2, hq, ?_⟩
  cases o with
  | returned v => exact fun target h => hstep₁ _ fun acts => by rw [doInvoke_state]; exact Steps.trans hgo h
  | threw x => exact fun target h => hstep₁ _ fun acts => by rw [doInvoke_state]; exact Steps.trans hgo h
/-- the same of a nest mate's private method -/
theorem xt_runVN (S : CallFix p m c cc nL s args Ts own) (hM : xt_Met l y ws rm Pc Qc mc ms free) (cw : va_CN R s args own index y host bytes maxL ret ws rm mc ms n ∧ (Cond.instanceMethod y).before args s = true ∧ (Cond.selects C y y).before args s = true) (hp : PreV s H C b Pc As)
    (hg : g.method = m) (hn : As.length = n) (hsize : g.locals.size = nL) (hstack : g.stack = As.reverse ++ .ref b :: rest) (hW : 2 * g.monitorRoom + (rest.map fun v => v.category).sum ≤ 8) (hdg : decode cc g.pc = .ok (.invokevirtual index, 3)) (hf : cells + mc ≤ R.cells ∧ slots + ms ≤ R.slots) :
    xt_Run p l e R s m args below meth c H locs cells slots mc ms g rest (Qc (Value.ref b :: As).toArray) free := by
  obtain ⟨⟨⟨hrc, hrs, hfr, hlo, hws, hcw⟩, hcode, hini, hy, hlen, hl⟩, hinst, hsel⟩ := cw
  obtain ⟨hx, hb, hml, ho, -⟩ := S
  obtain ⟨hbl, ⟨cellB, hcB, hoB, hclB⟩, hPc⟩ := hp
  intro T hT X
  obtain ⟨mk, methM, hnamed, hmethM, hstM, habM⟩ := Cond.instanceMethod_spec hinst
  obtain ⟨methM', cM, hmethM', -, -, -, -, -, -, hsigM⟩ := Cond.code_spec hnamed hcode
  cases hmethM.symm.trans hmethM'
  obtain ⟨c2, r2, m2, q1, q2, q3, q4, kP, hkP, hkPi⟩ := Cond.selects_spec hsel
  cases hclB.symm.trans q1
  cases (State.methodFound?_of_named hnamed hy).symm.trans q2
  cases hnamed.symm.trans q3
  have hselP : selectMethod e.platform s.vm cellB.cls mk = .method mk := by rw [Launch.admits_selectMethod X.admits]; exact q4
  obtain ⟨vm₁, X₁, hstep₁⟩ := X.invokevirtualNest hx ho hl hnamed hmethM hstM hkP hkPi hy (a := b) (cell := cellB) (by rw [hT]; exact hcB)
    (fun z h => by rw [h] at hoB; cases hoB) hselP hmethM habM hkP hkPi (g := g) hg (argsL := As) (rest := rest) (hn.trans (hlen _ hsigM)) hstack (by rw [hb]; exact hdg)
  obtain ⟨o, t, T2, L, X', hL, e1, e2, hq, hgo⟩ := xt_call hM hbl hrc hrs hfr hlo hws (xt_cd hws hcw) (xt_ini hini) X₁ (g := { g with stack := rest }) hg (hsize.trans hml.symm) (ig := .invokevirtual index) (len := 3) (by rw [hb]; exact hdg) hW (X₁.named hnamed) (a := (Value.ref b :: As).toArray) hf.1 hf.2 (hPc (T.setVm vm₁) hT X₁.warmed)
  refine ⟨o, (T.setVm vm₁).calling { g with stack := rest } mk (Value.ref b :: As).toArray, t, T2, L, hT, X', hL, e1, e2, hq, ?_⟩
  cases o with
  | returned v => exact fun target h => hstep₁ _ fun acts => by rw [doInvoke_state]; exact Steps.trans hgo h
  | threw x => exact fun target h => hstep₁ _ fun acts => by rw [doInvoke_state]; exact Steps.trans hgo h
/-- the walk with an object being thrown over the frame g -/
def xt_W (p : Program) (l : Launch) (e : Env) (R : Room) (s : State) (m : MethodId) (args : Array Value) (below : List Frame) (meth : Method) (c : Code) (H : Heap) (locs : List Loc) (cells slots : Nat) (Q : State → Prop) (g : JFrame) (x : Addr) : Prop :=
  ∀ T : State, T.heap = H → Stand p l e R s m args below meth c T locs cells slots → ∃ t, Steps p.tables e below ((T.setTop g).pushFrame (.throwing x)) t ∧ Q t
/-- out of a method that doesn't catch here -/
theorem xt_out {x : Addr} {pc : Nat} {ls : Array Slot} {st : List Value} (hout : ∀ z ∈ c.exceptionTable.toList, ∀ pc : Nat, covers z pc = false) (hq : ∀ t : State, t.heap = H → s.WarmedH t.vm → Qc args s (.threw x) t) (hf : ∀ q ∈ locs, free q.base) (hlocks : meth.locks = false) :
    xt_W p l e R s m args below meth c H locs cells slots (xt_MQ below Qc args s cells slots free) (F0 m pc ls st) x := by
  intro T hT X
  obtain ⟨h1, h2, h3, h4, h5⟩ := X.leaveThrown x (g := F0 m pc ls st) rfl rfl rfl (fun z hz => hout z hz _) hlocks
  exact ⟨_, h1, .threw x, h2, h3, hq _ hT h4, locs, ⟨h4, h5⟩, hf⟩
/-- what a contract of a method that may throw says at its end: the value that is returned, or the class of what is thrown -/
def xt_Is (X : String) (a : Nat) (t : State) : Prop := ∃ cell : Cell, t.heap[a]? = some cell ∧ t.vm.findClass X = some cell.cls ∧ cell.vm = .none
def xt_Q {S : Type} (ret : Option Value → S → Prop) (thr : String → S → Prop) (B : S → State → Prop) (A : Nat → Prop) : Array Value → State → Outcome → State → Prop := fun _ st oc t =>
  ((∃ (v : Option Value) (u : S), oc = .returned v ∧ ret v u ∧ B u t) ∨ (∃ (X : String) (a : Nat) (u : S), oc = .threw a ∧ thr X u ∧ B u t ∧ xt_Is X a t ∧ st.heap.size ≤ a)) ∧ va_F A st t
theorem xt_cont {S : Type} {ret : Option Value → S → Prop} {thr : String → S → Prop} {B : S → State → Prop} {A0 A1 : Nat → Prop} {H0 : Heap} {a : Array Value} {pc : Nat} {ls : Array Slot} {st0 : List Value}
    (hr : xt_Run p l e R s m args below meth c H locs cells slots mc ms (F0 m pc ls st0) rest (xt_Q ret thr B A1 a) free) (hS : va_S A0 H0 H locs) (hA : ∀ q, q < H.size → A1 q → A0 q) (hf : ∀ q, free q → A0 q)
    (kk : ∀ (v : Option Value) (u : S) (t : State) (H1 : Heap) (locs1 : List Loc), t.heap = H1 → s.vm.Alike t.vm → ret v u → B u t → H.size ≤ H1.size → (∀ q : Nat, q < H.size → ¬ A1 q → H1[q]? = H[q]?) → va_S A0 H0 H1 locs1 → W p l e R s m args below meth c H1 locs1 (cells + mc) (slots + ms) Q (F0 m (pc + 3) ls (v.toList ++ rest)))
    (kt : ∀ (X : String) (x : Nat) (u : S) (t : State) (H1 : Heap) (locs1 : List Loc), t.heap = H1 → s.vm.Alike t.vm → thr X u → B u t → xt_Is X x t → H.size ≤ x → H.size ≤ H1.size → (∀ q : Nat, q < H.size → ¬ A1 q → H1[q]? = H[q]?) → va_S A0 H0 H1 locs1 → xt_W p l e R s m args below meth c H1 locs1 (cells + mc) (slots + ms) Q (F0 m pc ls rest) x) :
    W p l e R s m args below meth c H locs cells slots Q (F0 m pc ls st0) := by
  intro T hT X
  obtain ⟨o, st₀, t, T2, L, h0, X', hL, e1, e2, ⟨hq, hz, hk⟩, st⟩ := hr T hT X
  rw [h0] at hz hk
  have hal : s.vm.Alike t.vm := by rw [← e2]; exact X'.warmed.alike
  have hz1 : H.size ≤ T2.heap.size := by rw [e1]; exact hz
  have hk1 : ∀ q : Nat, q < H.size → ¬ A1 q → T2.heap[q]? = H[q]? := fun q h1 h2 => by rw [e1]; exact hk q h1 h2
  have hS1 : va_S A0 H0 T2.heap (locs ++ L) := ⟨Nat.le_trans hS.1 hz1, fun q h1 h2 => by rw [hk1 q (Nat.lt_of_lt_of_le h1 hS.1) (fun z => h2 (hA q (Nat.lt_of_lt_of_le h1 hS.1) z))]; exact hS.2.1 q h1 h2, fun q hq => by
      rcases List.mem_append.mp hq with h | h
      · exact hS.2.2 q h
      · exact hf _ (hL q h)⟩
  rcases hq with ⟨v, u, rfl, hp, hb⟩ | ⟨Xn, x, u, rfl, hp, hb, hi, hx⟩
  · obtain ⟨t2, a1, b1⟩ := kk v u t T2.heap (locs ++ L) e1.symm hal hp hb hz1 hk1 hS1 T2 rfl X'
    exact ⟨t2, st t2 a1, b1⟩
  · obtain ⟨t2, a1, b1⟩ := kt Xn x u t T2.heap (locs ++ L) e1.symm hal hp hb hi (by rw [← h0]; exact hx) hz1 hk1 hS1 T2 rfl X'
    exact ⟨t2, st t2 a1, b1⟩
end XT2
end
section
/-! What a throw of a new object asks of the tables and of Throwable's statics, and the row for new; dup; ldc; invokespecial; athrow. -/
section XS0
theorem xs_at {w : Cond} (h : (w.onTables && w.keepsCast) = true) {A A' : Array Value} {s U : State} (hW : s.WarmedH U.vm) (hb : w.before A s = true) : w.before A' U = true := by
  simp only [Bool.and_eq_true] at h
  exact va_tabs h.1 (rfl : (s.setVm U.vm).vm = U.vm) (Cond.before_shiftedCast (State.Shifted.of_warmed hW) w h.2 hb)
/-- a static field of reference type: where it lies, and that it holds a reference or null -/
def xs_F (C n d : String) (U : State) (H : Heap) : Prop := ∃ (c : ClassId) (k : Class) (i : Nat) (f : Field) (a : Nat) (cell : Cell) (v : Value),
  (U.vm.findClass C = some c ∧ U.fieldFound? C n d = some (c, k, i, f) ∧ f.isStatic = true ∧ k.statics = some a ∧ k.staticTypes[f.slot]? = some f.type) ∧
  H[a]? = some cell ∧ cell.vm.isStatics = true ∧ cell.cls = c ∧ f.slot < cell.slots.size ∧ cell.slots[f.slot]? = some v ∧ v.isRef = true
theorem xs_F.of {A : Array Value} {U : State} {C n d : String} (hl : (Cond.laysStatic C n d).before A U = true) (hr : (Cond.isRef (.static C n d)).before A U = true) : xs_F C n d U U.heap := by
  obtain ⟨c, k, i, f, a, cell, h1, h2, h3, h4, h5, h6, h7, h8, h9⟩ := Cond.laysStatic_spec hl
  obtain ⟨u, hu⟩ := Cond.staticRefV h2 h3 h4 h5 h6 hr
  exact ⟨c, k, i, f, a, cell, u.v, ⟨h1, h2, h3, h4, h9⟩, h5, h6, h7, h8, hu, u.ok⟩
theorem xs_F.lays {A : Array Value} {U : State} {C n d : String} (h : xs_F C n d U U.heap) : (Cond.laysStatic C n d).before A U = true := by
  obtain ⟨c, k, i, f, a, cell, v, ⟨h1, h2, h3, h4, h5⟩, g1, g2, g3, g4, g5, g6⟩ := h
  exact Cond.laysStatic_of (first := U) (o := none) (idx := []) h1 h2 h3 h4 g1 g2 g3 g4 h5
theorem xs_F.ref {A : Array Value} {U : State} {C n d : String} (h : xs_F C n d U U.heap) : (Cond.isRef (.static C n d)).before A U = true := by
  obtain ⟨c, k, i, f, a, cell, v, ⟨h1, h2, h3, h4, h5⟩, g1, g2, g3, g4, g5, g6⟩ := h
  have he : (Term.static C n d).eval A U none [] U = some v := by
    simp [Term.eval, State.fieldNamed?, h2, h3, h4, g1, g2, g5]
  simp only [Cond.before, Cond.holds, Cond.value, he]
  cases v <;> simp_all [Value.isRef]
/-- every cell with a class's statics is as it was -/
def xs_keep (H H1 : Heap) : Prop := ∀ (a : Nat) (cell : Cell), H[a]? = some cell → cell.vm.isStatics = true → H1[a]? = some cell
theorem xs_keep.rf {H : Heap} : xs_keep H H := fun _ _ h _ => h
theorem xs_keep.tr {H H1 H2 : Heap} (h : xs_keep H H1) (h2 : xs_keep H1 H2) : xs_keep H H2 := fun a cell x y => h2 a cell (h a cell x y) y
theorem xs_F.move {C n d : String} {u U : State} {H H1 : Heap} (hvm : u.vm.Alike U.vm) (hk : xs_keep H H1) (h : xs_F C n d u H) : xs_F C n d U H1 := by
  obtain ⟨c, k, i, f, a, cell, v, ⟨h1, h2, h3, h4, h5⟩, g1, g2, g3, g4, g5, g6⟩ := h
  obtain ⟨k', hi, he⟩ := State.fieldFound?_setVm hvm h2
  exact ⟨c, k', i, f, a, cell, v, ⟨by rw [hvm.findClass]; exact h1, hi, h3, by rw [he]; exact h4, by rw [he]; exact h5⟩, hk a cell g1 g2, g2, g3, g4, g5, g6⟩
/-- all that the throws of a class ask: words of the tables (L), two statics, texts (S) -/
def xs_Th (L : List Cond) (S : List (String × Nat × String)) (U : State) : Prop := (∀ w ∈ L, w.before #[] U = true) ∧ xs_F Bundle.tN "UNASSIGNED_STACK" Bundle.steD U U.heap ∧ xs_F Bundle.tN "SUPPRESSED_SENTINEL" Bundle.listD U U.heap ∧ ∀ q ∈ S, ∃ sa : Nat, vk_R q.1 q.2.1 q.2.2 sa U
theorem xs_Th.move {L : List Cond} {S : List (String × Nat × String)} {s U : State} (hL : L.all (fun w => w.onTables && w.keepsCast) = true) (hW : s.WarmedH U.vm) (hk : xs_keep s.heap U.heap) (h : xs_Th L S s) : xs_Th L S U := by
  obtain ⟨h1, h2, h3, h4⟩ := h
  refine ⟨fun w hw => xs_at (List.all_eq_true.mp hL w hw) hW (h1 w hw), h2.move hW.alike hk, h3.move hW.alike hk, fun q hq => ?_⟩
  obtain ⟨sa, h5⟩ := h4 q hq
  exact ⟨sa, h5.warm hW⟩
theorem xs_keep.of {A : Nat → Prop} {H0 H : Heap} {locs : List Loc} (hS : va_S A H0 H locs) (hA : ∀ (q : Nat) (cell : Cell), A q → H0[q]? = some cell → cell.vm.isStatics = false) : xs_keep H0 H := by
  intro a cell h hs
  rw [hS.2.1 a (Array.getElem?_eq_some_iff.mp h).1 (fun z => by rw [hA a cell z h] at hs; cases hs)]
  exact h
theorem xs_world {D : va_G} {cl : List vw_C} {ws : va_W} {H0 : Heap} (hP : va_P D cl ws H0) : ∀ (q : Nat) (cell : Cell), va_A ws H0.size q → H0[q]? = some cell → cell.vm.isStatics = false := by
  intro q cell hA hc
  rcases hA with ⟨k, e, hk⟩ | h
  · have h1 := hP k _ hk
    cases e with
    | inl x =>
      have h2 : H0[q]? = some (vp_cell x.1 x.2) := h1
      cases hc.symm.trans h2
      obtain ⟨cA, n, f | f | f | f | f⟩ := x <;> rfl
    | inr o =>
      obtain ⟨r, -, cell2, g1, -, g3, -⟩ := h1
      cases hc.symm.trans g1
      rw [g3]; rfl
  · have h1 := (Array.getElem?_eq_some_iff.mp hc).1
    omega
/-- the words of a throw, but for the four that speak of the heap -/
def xs_no (w : Cond) : Bool := decide (w ≠ .isRef (.static Bundle.tN "UNASSIGNED_STACK" Bundle.steD)) && decide (w ≠ .isRef (.static Bundle.tN "SUPPRESSED_SENTINEL" Bundle.listD)) && decide (w ≠ .laysStatic Bundle.tN "UNASSIGNED_STACK" Bundle.steD) && decide (w ≠ .laysStatic Bundle.tN "SUPPRESSED_SENTINEL" Bundle.listD)
def xs_need (own : String) (ia ic : Nat) (X : String) (names : List String) : List Cond := Cond.classLink own ia X :: Cond.initialized X :: (Bundle.ownAtoms own ic X names).filter xs_no
theorem xs_words {L : List Cond} {S : List (String × Nat × String)} {U : State} {A : Array Value} {own X : String} {ia ic : Nat} {names : List String} (hL : L.all (fun w => w.onTables && w.keepsCast) = true) (h : xs_Th L S U) (hin : ∀ w ∈ xs_need own ia ic X names, w ∈ L) :
    (Cond.classLink own ia X).before A U = true ∧ (Cond.initialized X).before A U = true ∧ ∀ w ∈ Bundle.ownAtoms own ic X names, w.before A U = true := by
  have one : ∀ w ∈ xs_need own ia ic X names, w.before A U = true := fun w hw => xs_at (List.all_eq_true.mp hL w (hin w hw)) (State.WarmedH.refl U) (h.1 w (hin w hw))
  refine ⟨one _ List.mem_cons_self, one _ (List.mem_cons_of_mem _ List.mem_cons_self), fun w hw => ?_⟩
  by_cases e1 : w = .isRef (.static Bundle.tN "UNASSIGNED_STACK" Bundle.steD)
  · rw [e1]; exact h.2.1.ref
  by_cases e2 : w = .isRef (.static Bundle.tN "SUPPRESSED_SENTINEL" Bundle.listD)
  · rw [e2]; exact h.2.2.1.ref
  by_cases e3 : w = .laysStatic Bundle.tN "UNASSIGNED_STACK" Bundle.steD
  · rw [e3]; exact h.2.1.lays
  by_cases e4 : w = .laysStatic Bundle.tN "SUPPRESSED_SENTINEL" Bundle.listD
  · rw [e4]; exact h.2.2.1.lays
  refine one w (List.mem_cons_of_mem _ (List.mem_cons_of_mem _ (List.mem_filter.mpr ⟨hw, ?_⟩)))
  simp [xs_no, e1, e2, e3, e4]
end XS0
section XS1
variable {p : Program} {l : Launch} {e : Env} {R : Room} {s : State} {m : MethodId} {args : Array Value} {below : List Frame} {meth : Method} {c : Code} {H : Heap} {locs : List Loc} {cells slots : Nat}
/-- the same stand, as if the method had been called in the heap of now -/
theorem xs_base {T : State} (X : Stand p l e R s m args below meth c T locs cells slots) {k n : Nat} (hk : cells + k ≤ R.cells) (hn : slots + n ≤ R.slots) :
    Stand p l e { R with cells := k, slots := n } { s with heap := T.heap, slotsUsed := T.slotsUsed } m args below meth c T [] 0 0 := by
  refine ⟨X.admits, X.cas, X.clock, X.frames, ?_, X.hears, X.method, X.code, X.here, X.tail, X.warmed, X.limits, X.bytes, ?_⟩
  · have h := X.room
    have q1 := X.heapSize
    have q2 := X.used
    have q3 := X.book
    simp only [State.hasRoom, Bool.and_eq_true, decide_eq_true_eq] at h ⊢
    obtain ⟨⟨⟨⟨h1, h2⟩, h7⟩, h8⟩, -⟩ := h
    refine ⟨⟨⟨⟨h1, h2⟩, ?_⟩, ?_⟩, q3⟩
    · show T.heap.size + k ≤ e.platform.maxCells
      omega
    · show T.slotsUsed + n ≤ e.platform.maxSlots
      omega
  · have hd : T.heap.toList.drop T.heap.size = [] := List.drop_of_length_le (by simp)
    refine ⟨X.same.1, Nat.le_refl _, Nat.le_refl _, ?_, ?_, fun a c9 h9 => ⟨c9, h9, rfl, rfl, fun _ _ => rfl⟩⟩
    · show T.slotsUsed = T.slotsUsed + ((T.heap.toList.drop T.heap.size).map (·.slots.size)).sum
      rw [hd]; rfl
    · show ((T.heap.toList.drop T.heap.size).map (·.slots.size)).sum ≤ 0
      rw [hd]; exact Nat.le_refl _
/-- nothing was written: the old cells are as they were -/
theorem xs_old {u U : State} {k n : Nat} (h : u.sameButNew ({ U with vm := u.vm } : State) [] k n) : ∀ q : Nat, q < u.heap.size → U.heap[q]? = u.heap[q]? := by
  intro q hq
  obtain ⟨c9, e1, e2, -, e4⟩ := h.2.2.2.2.2 q _ (Array.getElem?_eq_getElem hq)
  have hs : c9.slots = (u.heap[q]).slots := Array.ext_getElem? fun i => e4 i (fun z => nomatch z)
  rw [hs] at e2
  have e5 : c9 = u.heap[q] := e2
  have e6 : U.heap[q]? = some c9 := e1
  rw [e6, e5, Array.getElem?_eq_getElem hq]
theorem xs_back {T U : State} (X : Stand p l e R s m args below meth c T locs cells slots) {k n : Nat} (h : ({ s with heap := T.heap, slotsUsed := T.slotsUsed } : State).sameButNew ({ U with vm := s.vm } : State) [] k n) : s.sameButNew ({ U with vm := s.vm } : State) locs (cells + k) (slots + n) := by
  have h9 : (T.setVm s.vm).setFrames U.frames = ({ s with heap := T.heap, slotsUsed := T.slotsUsed } : State).setFrames U.frames := by
    have e1 : T.setVm s.vm = ({ s.setFrames T.frames with heap := T.heap, slotsUsed := T.slotsUsed } : State) := X.same.1
    rw [e1]
    show ({ (s.setFrames T.frames).setFrames U.frames with heap := T.heap, slotsUsed := T.slotsUsed } : State) = _
    rw [State.setFrames_setFrames]
    rfl
  have h2 : (T.setVm s.vm).sameButNew ({ U with vm := s.vm } : State) [] k n := by
    refine ⟨?_, h.2⟩
    have e2 := h.1
    show ({ U with vm := s.vm } : State) = { (T.setVm s.vm).setFrames U.frames with heap := U.heap, slotsUsed := U.slotsUsed }
    rw [h9]
    exact e2
  have h3 := X.same.trans h2
  rw [List.append_nil] at h3
  exact h3
set_option maxHeartbeats 2000000 in
/-- throw new X("..") in a method without handlers: one cell of six slots is new, no old cell changes -/
theorem xs_throw {L : List Cond} {S : List (String × Nat × String)} {Qc : Array Value → State → Outcome → State → Prop} {free : Addr → Prop} {cc : ByteArray} {pc : Nat} {ls : Array Slot} {rest : List Value} {own X tx : String} {names : List String} {ia is ic : Nat}
    (hexec : p.tables.exec = Jvm.exec) (hb : c.code = cc) (htr : l.stackTraces = false) (hml : ls.size = c.maxLocals) (hlocks : meth.locks = false) (hown : s.vm.findClass own = some m.cls)
    (hL : L.all (fun w => w.onTables && w.keepsCast) = true) (hTh : xs_Th L S s) (hkeep : xs_keep s.heap H) (hX : Bundle.fit X = true) (hnames : names.all Bundle.fit = true)
    (hin : ∀ w ∈ xs_need own ia ic X names, w ∈ L) (hstr : (own, is, tx) ∈ S)
    (d0 : decode cc pc = .ok (.new ia, 3)) (d3 : decode cc (pc + 3) = .ok (.dup, 1)) (d4 : decode cc (pc + 4) = .ok (.ldc is, 2)) (d6 : decode cc (pc + 6) = .ok (.invokespecial ic, 3)) (d9 : decode cc (pc + 9) = .ok (.athrow, 1))
    (hout : ∀ z ∈ c.exceptionTable.toList, ∀ pc : Nat, covers z pc = false)
    (hRf : names.length + 3 < R.frames) (hRl : 1 + (rest.map fun v => v.category).sum + (13 * (names.length + 1) + 42) ≤ R.locals) (hcells : cells + 1 ≤ R.cells) (hslots : slots + 6 ≤ R.slots)
    (hq : ∀ t : State, (∀ z : Nat, z < H.size → t.heap[z]? = H[z]?) → H.size ≤ t.heap.size → s.WarmedH t.vm → xt_Is X H.size t → Qc args s (.threw H.size) t) (hf : ∀ q ∈ locs, free q.base) :
    W p l e R s m args below meth c H locs cells slots (xt_MQ below Qc args s (cells + 1) (slots + 6) free) (F0 m pc ls rest) := by
  intro T hT X0
  have htr2 : e.platform.stackTraces = false := (show e.platform.stackTraces = l.stackTraces by rw [X0.admits.platform]).trans htr
  have Y := xs_base X0 (k := 1) (n := 6) hcells hslots
  have hTh2 : xs_Th L S ({ s with heap := T.heap, slotsUsed := T.slotsUsed } : State) := hTh.move hL (State.WarmedH.refl s) (by show xs_keep s.heap T.heap; rw [hT]; exact hkeep)
  obtain ⟨w1, w2, w3⟩ := xs_words (A := args) hL hTh2 hin
  obtain ⟨sa, hsa⟩ := hTh2.2.2.2 _ hstr
  have hback : ∀ U : State, ({ s with heap := T.heap, slotsUsed := T.slotsUsed } : State).sameButNew ({ U with vm := s.vm } : State) [] (0 + 1) (0 + 6) → s.sameButNew ({ U with vm := s.vm } : State) locs (cells + 1) (slots + 6) := fun U h => xs_back X0 h
  have hhp : ({ s with heap := T.heap, slotsUsed := T.slotsUsed } : State).heap = H := hT
  have hvm : ({ s with heap := T.heap, slotsUsed := T.slotsUsed } : State).vm = s.vm := rfl
  generalize hs2 : ({ s with heap := T.heap, slotsUsed := T.slotsUsed } : State) = s2 at Y hTh2 w1 w2 w3 hsa hback hhp hvm
  have hown2 : s2.vm.findClass own = some m.cls := by rw [hvm]; exact hown
  have w4 : (Cond.instantiable X 6).before args s2 = true := w3 _ (by simp [Bundle.ownAtoms])
  obtain ⟨cX, -, hcX, -⟩ := Cond.instantiable_spec w4
  have body : W p l e { R with cells := 1, slots := 6 } s2 m args below meth c H [] 0 0 (fun U => U.status = .running ∧ Ended U below (.threw H.size) ∧ s2.WarmedH U.vm ∧ s2.sameButNew ({ U with vm := s2.vm } : State) [] (0 + 1) (0 + 6) ∧ ∃ ce : Cell, U.heap[H.size]? = some ce ∧ s2.vm.findClass X = some ce.cls ∧ ce.vm = .none) (F0 m pc ls rest) := by
    refine W.newcK hexec hb hown2 w1 w4 w2 rfl d0 (Nat.le_refl _) (Nat.le_refl _) hcX rfl fun H1 kC hkC e1 z1 o1 => ?_
    refine W.eq (g2 := F0 m (pc + 3) ls (.ref H.size :: rest)) rfl ?_
    refine lv_dup hexec hb d3 rfl ?_
    refine va_ldcS hexec hb hown2 hsa d4 ?_
    intro T3 hT3 X3
    have hcat : (Value.ref H.size).category = 1 := rfl
    obtain ⟨U, hsteps, hrun, hend, hW, hsame, ce, hce, hO⟩ := X3.ctorThrowS hexec htr2 (own := own) (cls := X) (names := names) (ic := ic) hown2 hX (fun n hn => List.all_eq_true.mp hnames n hn) w3 (fun x hx => nomatch hx) hcX hkC (by rw [hT3]; exact e1) (by rw [hhp]; exact Nat.le_refl _) (msg := .ref sa) rfl
      (g := F0 m (pc + 6) ls (.ref sa :: .ref H.size :: .ref H.size :: rest)) rfl hml rfl rfl (rest := rest) rfl (by rw [hb]; exact d6) (by rw [hb]; exact d9) (fun z hz => hout z hz _) hRf
      (by show 2 * 0 + ((Value.ref H.size :: rest).map fun v => v.category).sum + (13 * (names.length + 1) + 42) ≤ R.locals
          simp only [List.map_cons, List.sum_cons, hcat]; omega) hlocks
    exact ⟨U, hsteps, hrun, hend, hW, hsame, ce, hce, hO.cls, hO.vm⟩
  obtain ⟨U, hst, hrun, hend, hW, hsame, ce, hce, hcl, hv⟩ := body T hT Y
  have hold := xs_old hsame
  rw [hhp] at hold
  have hge : H.size ≤ U.heap.size := Nat.le_of_lt (Array.getElem?_eq_some_iff.mp hce).1
  have hW2 : s.WarmedH U.vm := by
    have h9 : s2.WarmedH U.vm := hW
    rw [← hs2] at h9
    exact h9
  refine ⟨U, hst, .threw H.size, hrun, hend, hq U hold hge hW2 ⟨ce, hce, ?_, hv⟩, locs, ⟨hW2, hback U ?_⟩, hf⟩
  · rw [hW.alike.findClass]; exact hcl
  · rw [hvm] at hsame; exact hsame
end XS1
end
section
/-! A thrown object is caught in a method's own table of handlers (its classes resolved or not yet), and the call of a static method that has such a table. -/
section XC0
variable {E : CtlPost} {e : Env} {d : Bool} {acts : List Action} {st : State} {f : JFrame} {a : Addr} {Q : Handler → Pre}
theorem xc_go {x : ExceptionTableEntry} {t : List ExceptionTableEntry} {k : ClassId} {cell : Cell} {vm' : Vm} (hx : covers x f.pc = true) (h0 : x.catchType ≠ 0)
    (hg : (Jvm.resolveClass f.method.cls x.catchType).Gives e.toSetting st.vm (.ok k) vm') (hsz : vm'.classes.size ≤ st.vm.classes.size)
    (hcell : st.heap[a]? = some cell) (hobj : ∀ z, cell.vm ≠ .statics z) (hk : ∃ z, vm'.classes[cell.cls]? = some z) (hc : ∃ z, vm'.classes[k]? = some z) :
    wp (findHandler.go f a (x :: t)) Q E e d acts st ↔ if vm'.assignable cell.cls k = true then Q (.found x.handlerPc) d acts (st.setVm vm') else wp (findHandler.go f a t) Q E e d acts (st.setVm vm') := by
  obtain ⟨ha, ht⟩ := hg.op (op := VmOp.resolveClass f.method.cls x.catchType) rfl
  simp only [covers] at hx
  cases hfit : vm'.assignable cell.cls k <;>
    simp [findHandler.go, hx, h0, ha, ht, hsz, hcell, hobj, hk, hc, hfit, VmOp.dirties, VmOp.acts]
theorem xc_step {r : List Frame} {pc : Nat} {vm' : Vm} (hfind : ∀ (Q : Handler → Pre) (E : CtlPost) (d : Bool) (acts : List Action), wp (findHandler f a) Q E e d acts st ↔ Q (.found pc) d acts (st.setVm vm')) :
    (stepThrowing e st a (.java f :: r)).Is ((st.setVm vm').setFrames (.java { f with pc := pc, stack := [.ref a] } :: r)) [] := by
  simp only [stepThrowing, searchFrame, vmDo]
  generalize hr : Sem.go _ e false [] st = res
  obtain ⟨as, rfl, ha⟩ := Sem.eq_ok_of hr (a := Handler.found pc) (s' := st.setVm vm') (acts' := []) (by simp [hfind _ _ _ _])
  exact ⟨rfl, ha⟩
end XC0
section XC1
variable {p : Program} {l : Launch} {e : Env} {R : Room} {s : State} {m : MethodId} {args : Array Value} {below : List Frame} {meth : Method} {c : Code} {H : Heap} {locs : List Loc} {cells slots : Nat} {Q : State → Prop}
theorem xc_not {E C : String} {cE k : ClassId} (hE : s.vm.findClass E = some cE) (hC : s.vm.findClass C = some k) (h : (Cond.not (.castable E C)).before args s = true) : s.vm.assignable cE k = false := by
  simp only [Cond.before, Cond.holds, Cond.value, hE, hC] at h
  cases hb : s.vm.assignable cE k
  · rfl
  · rw [hb] at h; simp at h
theorem xc_find {own E : String} {x : Addr} {cell : Cell} {g : JFrame} (hpl : e.platform.magicAccessors = ({} : Platform).magicAccessors) (hown : s.vm.findClass own = some g.method.cls) (hvn : cell.vm = .none) (hE : s.vm.findClass E = some cell.cls)
    (e0 : ExceptionTableEntry) (C0 : String) (rest : List ExceptionTableEntry) (hc0 : covers e0 g.pc = true) (ht0 : e0.catchType ≠ 0) (hl0 : (Cond.classLink own e0.catchType C0).before args s = true) (hy : (Cond.castable E C0).before args s = true) :
    ∀ (pre : List (ExceptionTableEntry × String)), (∀ q ∈ pre, covers q.1 g.pc = true ∧ q.1.catchType ≠ 0 ∧ (Cond.classLink own q.1.catchType q.2).before args s = true ∧ (Cond.not (.castable E q.2)).before args s = true) →
    ∀ V : Vm, s.WarmedH V → ∃ vm' : Vm, s.WarmedH vm' ∧ ∀ (Q : Handler → Pre) (E' : CtlPost) (d : Bool) (acts : List Action) (st : State), st.vm = V → st.heap[x]? = some cell →
      (wp (findHandler.go g x (pre.map (·.1) ++ e0 :: rest)) Q E' e d acts st ↔ Q (.found e0.handlerPc) d acts (st.setVm vm')) := by
  have hobj : ∀ z, cell.vm ≠ .statics z := fun z h => by rw [hvn] at h; cases h
  have step : ∀ (en : ExceptionTableEntry) (C : String), (Cond.classLink own en.catchType C).before args s = true → ∀ V : Vm, s.WarmedH V → ∃ k : ClassId, s.vm.findClass C = some k ∧ (Jvm.resolveClass g.method.cls en.catchType).Gives e.toSetting V (.ok k) (V.noted g.method.cls en.catchType (.cls k)) ∧ s.WarmedH (V.noted g.method.cls en.catchType (.cls k)) ∧ (V.noted g.method.cls en.catchType (.cls k)).classes.size ≤ V.classes.size ∧ (∃ z, (V.noted g.method.cls en.catchType (.cls k)).classes[cell.cls]? = some z) ∧ (∃ z, (V.noted g.method.cls en.catchType (.cls k)).classes[k]? = some z) := by
    intro en C hl V hV
    obtain ⟨k, hkF, hcl⟩ := Cond.classLink_spec hown hl e.platform hpl
    obtain ⟨dk, _, _, kt, hd, _, _, _, _, hkt, _, hopen⟩ := hcl.here
    have hW' : s.WarmedH (V.noted g.method.cls en.catchType (.cls k)) := hV.noted hd hopen (State.rightAt_cls hcl)
    obtain ⟨kc, hkc⟩ := Vm.classAt_of_findClass hE
    obtain ⟨k1, hk1, -⟩ := hW'.alike.2.2 _ _ hkc
    obtain ⟨k2, hk2, -⟩ := hW'.alike.2.2 _ _ hkt
    exact ⟨k, hkF, resolveClass_links e.toSetting (hV.classLinks hcl), hW', by no_record, ⟨k1, hk1⟩, ⟨k2, hk2⟩⟩
  intro pre
  induction pre with
  | nil =>
    intro _ V hV
    obtain ⟨k, hkF, hg, hW', hsz, h1, h2⟩ := step e0 C0 hl0 V hV
    obtain ⟨c1, t1, q1, q2, q3⟩ := Cond.castable_spec hy
    cases hE.symm.trans q1
    cases hkF.symm.trans q2
    refine ⟨_, hW', fun Q E' d acts st hst hce => ?_⟩
    subst hst
    show wp (findHandler.go g x (e0 :: rest)) Q E' e d acts st ↔ _
    rw [xc_go hc0 ht0 hg hsz hce hobj h1 h2, if_pos (by rw [hW'.alike.assignable]; exact q3)]
  | cons q t ih =>
    intro hall V hV
    obtain ⟨a1, a2, a3, a4⟩ := hall q List.mem_cons_self
    obtain ⟨k, hkF, hg, hW', hsz, h1, h2⟩ := step q.1 q.2 a3 V hV
    have hno := xc_not hE hkF a4
    obtain ⟨vm2, hW2, h3⟩ := ih (fun z hz => hall z (List.mem_cons_of_mem _ hz)) _ hW'
    refine ⟨vm2, hW2, fun Q E' d acts st hst hce => ?_⟩
    subst hst
    show wp (findHandler.go g x (q.1 :: (t.map (·.1) ++ e0 :: rest))) Q E' e d acts st ↔ _
    rw [xc_go a1 a2 hg hsz hce hobj h1 h2, if_neg (by rw [hW'.alike.assignable, hno]; decide)]
    exact h3 Q E' d acts _ rfl hce
/-- caught: the walk goes on at the handler, with the object alone on the stack -/
theorem xc_catch {own E : String} {x : Addr} {cell : Cell} {pc : Nat} {ls : Array Slot} {st0 : List Value} (hown : s.vm.findClass own = some m.cls) (hcell : H[x]? = some cell) (hvn : cell.vm = .none) (hE : s.vm.findClass E = some cell.cls)
    (e0 : ExceptionTableEntry) (C0 : String) (rest : List ExceptionTableEntry) (pre : List (ExceptionTableEntry × String)) (htab : c.exceptionTable.toList = pre.map (·.1) ++ e0 :: rest) (hc0 : covers e0 pc = true) (ht0 : e0.catchType ≠ 0) (hl0 : (Cond.classLink own e0.catchType C0).before args s = true) (hy : (Cond.castable E C0).before args s = true)
    (hall : ∀ q ∈ pre, covers q.1 pc = true ∧ q.1.catchType ≠ 0 ∧ (Cond.classLink own q.1.catchType q.2).before args s = true ∧ (Cond.not (.castable E q.2)).before args s = true)
    (k : W p l e R s m args below meth c H locs cells slots Q (F0 m e0.handlerPc ls [.ref x])) : xt_W p l e R s m args below meth c H locs cells slots Q (F0 m pc ls st0) x := by
  intro T hT X
  have hpl : e.platform.magicAccessors = ({} : Platform).magicAccessors := by rw [X.admits.platform]
  obtain ⟨vm', hW', hfind⟩ := xc_find (g := F0 m pc ls st0) hpl hown hvn hE e0 C0 rest hc0 ht0 hl0 hy pre hall T.vm X.warmed
  obtain ⟨t, a1, b1⟩ := k (T.setVm vm') hT (X.noted hW')
  refine ⟨t, ?_, b1⟩
  obtain ⟨hgo, hw⟩ := At.throwing (g := F0 m pc ls st0) (X.here : At T (F0 m pc ls st0).method c below) x
  refine Steps.head hgo hw ?_
  have hv : ((T.setTop (F0 m pc ls st0)).pushFrame (.throwing x)).vm = T.vm := Stand.throwing_vm T _ x
  have hh : ((T.setTop (F0 m pc ls st0)).pushFrame (.throwing x)).heap = T.heap := Stand.throwing_heap T _ x
  rw [stepThread_throwing (frames_entered X.here.top _), (xc_step (st := (T.setTop (F0 m pc ls st0)).pushFrame (.throwing x)) (f := F0 m pc ls st0) (pc := e0.handlerPc) (vm' := vm') (fun Q E' d acts => by
    rw [W.findHandler_eq (meth := meth) (code := c) (by rw [hv]; exact X.method') X.code, htab]
    exact hfind Q E' d acts _ hv (by rw [hh, hT]; exact hcell))).1]
  obtain ⟨g₀, hg⟩ := Option.isSome_iff_exists.mp X.here.top
  obtain ⟨r, hr⟩ := State.topJava?_eq_some.mp hg
  have e1 : (((T.setTop (F0 m pc ls st0)).pushFrame (.throwing x)).setVm vm').setFrames (.java { (F0 m pc ls st0) with pc := e0.handlerPc, stack := [.ref x] } :: T.frames.tail) = (T.setVm vm').setTop (F0 m e0.handlerPc ls [.ref x]) := by
    have hr2 : (T.setVm vm').frames = .java g₀ :: r := hr
    rw [State.setTop_of_frames _ hr2]
    show ((((T.setTop (F0 m pc ls st0)).pushFrame (.throwing x)).setFrames _).setVm vm') = ((T.setFrames _).setVm vm')
    rw [State.pushFrame, State.setFrames_setFrames, State.setTop_of_frames _ hr, State.setFrames_setFrames, hr]
    rfl
  rw [e1]
  exact a1
end XC1
section XC2
variable {p : Program} {l : Launch} {e : Env} {R : Room} {s : State} {m : MethodId} {args : Array Value} {below : List Frame} {meth : Method} {c : Code} {H : Heap} {locs : List Loc} {cells slots : Nat}
variable {y : MethodName} {bytes cc : ByteArray} {maxL nL mc ms n index : Nat} {ret : Option FieldType} {hh : List (Nat × Nat × Nat × Nat)} {ws ws' : List Cond} {rm : Room} {Pc : Array Value → State → Prop} {Qc : Array Value → State → Outcome → State → Prop} {free : Addr → Prop} {Ts : List Cond} {own : String} {As rest : List Value} {g : JFrame}
/-- invokestatic of a method that has a table of handlers and returns -/
theorem xc_runS (S : CallFix p m c cc nL s args Ts own) (hM : Met l y ws rm Pc Qc mc ms free) (hG : GoodIn Ts ws) (hw : ws = Cond.codeWith y bytes maxL ret hh :: ws') (hrc : rm.cells = mc) (hrs : rm.slots = ms) (hR : rm.frames + 1 ≤ R.frames ∧ 8 + (maxL + 11) + rm.locals ≤ R.locals)
    (hl : (Cond.methodLink own index y).before args s = true) (hst : (Cond.static y).before args s = true) (hini : (Cond.initialized y.cls).before args s = true) (hy : y.cls ≠ "java/lang/invoke/MethodHandle" ∧ y.cls ≠ "java/lang/invoke/VarHandle") (hd : (parseMethodDescriptor y.desc).map (fun d => d.parameters.length) = some n) (hp : PreS s H Pc As)
    (hg : g.method = m) (hn : As.length = n) (hsize : g.locals.size = nL) (hstack : g.stack = As.reverse ++ rest) (hW : 2 * g.monitorRoom + (rest.map fun v => v.category).sum ≤ 8) (hdg : decode cc g.pc = .ok (.invokestatic index, 3)) (hf : cells + mc ≤ R.cells ∧ slots + ms ≤ R.slots) :
    va_Run p l e R s m args below meth c H locs cells slots mc ms g rest (Qc As.toArray) free := by
  obtain ⟨hx, hb, hml, ho, hts⟩ := S
  have hcw : Cond.codeWith y bytes maxL ret hh ∈ ws := by rw [hw]; exact List.mem_cons_self
  have hws := pay_in hts hG
  have hcode : (Cond.codeWith y bytes maxL ret hh).before args s = true := hts _ (hG _ hcw).1
  have hK : Back l R p e below s args y 3 8 (PreOf R mc ms Pc) (PostOf Qc mc ms free) := va_backW (hh := hh) (bytes := bytes) (maxL := maxL) (ret := ret) hM hp.1 hrc hrs hR.1 hR.2 hws hcw (xt_ini hini)
  intro T hT X
  obtain ⟨mk, methM, cM, hnamed, hmethM, -, -, -, -, -, -, hsigM⟩ := Cond.codeWith_spec hcode
  have hstatic : methM.isStatic = true := Cond.static_spec hnamed hmethM hst
  obtain ⟨kP, hkP, -⟩ := className_of_methodNamed hnamed
  have hinitP : kP.init = .initialized := Cond.initialized_spec (findClass_of_methodNamed hnamed) hkP hini
  have hlen : As.length = methM.sig.parameters.length := by
    rw [hsigM] at hd
    rw [hn]; exact (Option.some.inj hd).symm
  obtain ⟨vm₁, X₁, hstep₁⟩ := X.invokestatic hx ho hl hnamed hmethM hstatic hkP hinitP hy (g := g) hg (argsL := As) (rest := rest) hlen hstack (by rw [hb]; exact hdg)
  obtain ⟨v, ⟨U', l2, c2, s2⟩, X', ⟨g', mk', t, L, e1, e2, hq, h1, hL, h2, h3⟩, hsteps⟩ := hK m meth c ⟨T.setVm vm₁, locs, cells, slots⟩ { g with stack := rest } (.invokestatic index) mk As.toArray X₁ hg (hsize.trans hml.symm) (by rw [hb]; exact hdg) hW (X₁.named hnamed) ⟨hf.1, hf.2, hp.2 (T.setVm vm₁) hT X₁.warmed⟩
  dsimp only [Pt.U, Pt.locs, Pt.cells, Pt.slots] at X' e1 e2 h1 h2 h3 hsteps
  subst h1; subst h2; subst h3
  exact ⟨v, (T.setVm vm₁).calling g' mk' As.toArray, t, U', L, hT, X', hL, e1, e2, hq, fun target h => hstep₁ _ fun acts => by rw [doInvoke_state]; exact hsteps.trans h⟩
end XC2
end
section
/-! The pure side: what a transaction, the desk and the reference are, as mathematical values, and what each call does to them. The rows bt .. b_sshr began as kit/laws/BITS.to-paste. -/
def bt (x : Int32) (i : Nat) : Bool := x.toBitVec.getLsbD i
theorem b_ext {x y : Int32} (h : ∀ i, i < 32 → bt x i = bt y i) : x = y := Int32.toBitVec_inj.mp (BitVec.eq_of_getLsbD_eq (fun i hi => h i hi))
theorem b_or (x y : Int32) (i : Nat) : bt (x ||| y) i = (bt x i || bt y i) := by unfold bt; rw [Int32.toBitVec_or, BitVec.getLsbD_or]
theorem b_and (x y : Int32) (i : Nat) : bt (x &&& y) i = (bt x i && bt y i) := by unfold bt; rw [Int32.toBitVec_and, BitVec.getLsbD_and]
theorem b_big {x : Int32} {i : Nat} (h : 32 ≤ i) : bt x i = false := BitVec.getLsbD_of_ge _ _ h
theorem b_0 (i : Nat) : bt 0 i = false := BitVec.getLsbD_zero
theorem s_l : ∀ n, n < 32 → ((nI n &&& 31).toBitVec.smod 32).toNat = n := by decide +kernel
theorem b_shl (n : Nat) (hn : n < 32) (x : Int32) {i : Nat} (hi : i < 32) : bt (x <<< (nI n &&& 31)) i = (decide (n ≤ i) && bt x (i - n)) := by
  unfold bt
  rw [Int32.toBitVec_shiftLeft]
  show (x.toBitVec <<< ((nI n &&& 31).toBitVec.smod 32).toNat).getLsbD i = _
  rw [s_l n hn, BitVec.getLsbD_shiftLeft]
  rcases Nat.lt_or_ge i n with h | h
  · simp [h, Nat.not_le.mpr h]
  · simp [hi, h, Nat.not_lt.mpr h]
theorem b_sshr (n : Nat) (hn : n < 32) (x : Int32) {i : Nat} (hi : i < 32) : bt (x >>> (nI n &&& 31)) i = if n + i < 32 then bt x (n + i) else bt x 31 := by
  unfold bt
  rw [Int32.toBitVec_shiftRight]
  show (x.toBitVec.sshiftRight ((nI n &&& 31).toBitVec.smod 32).toNat).getLsbD i = _
  rw [s_l n hn, BitVec.getLsbD_sshiftRight, BitVec.msb_eq_getLsbD_last]
  simp [hi]
theorem b_1 : ∀ i, i < 32 → bt 1 i = decide (i = 0) := by decide +kernel
def bI (b : Bool) : Int32 := if b = true then 1 else 0
theorem bI_eq {b : Bool} : bI b = 1 ↔ b = true := by cases b <;> decide
theorem bI_ne {b : Bool} : bI b = 0 ↔ b = false := by cases b <;> decide
theorem bI_inj {b d : Bool} (h : bI b = bI d) : b = d := by cases b <;> cases d <;> first | rfl | (exact absurd h (by decide))
theorem bI_nar (b : Bool) : narrow .boolean (.int (bI b)) = .int (bI b) := by cases b <;> decide +kernel
theorem bI_fit (b : Bool) : fits .boolean (.int (bI b)) = true := by cases b <;> decide +kernel
theorem bI_vnar (b : Bool) : vp_nar .boolean (bI b) = bI b := by cases b <;> decide +kernel
/-- 1 << k -/
def sB (k : Nat) : Int32 := (1 : Int32) <<< (nI k &&& 31)
theorem sB_bt {k i : Nat} (hk : k < 32) (hi : i < 32) : bt (sB k) i = decide (i = k) := by
  unfold sB
  rw [b_shl k hk 1 hi]
  rcases Nat.lt_or_ge i k with h | h
  · simp [Nat.not_le.mpr h, Nat.ne_of_lt h]
  · rw [b_1 _ (by omega)]
    simp only [h, decide_true, Bool.true_and]
    rw [decide_eq_decide]
    omega
theorem or_bt {x : Int32} {k i : Nat} (hk : k < 32) (hi : i < 32) : bt (x ||| sB k) i = (bt x i || decide (i = k)) := by rw [b_or, sB_bt hk hi]
/-- (x >> k) & 1 -/
theorem hold_bt (x : Int32) {k : Nat} (hk : k < 32) : (x >>> (nI k &&& 31)) &&& 1 = bI (bt x k) := by
  apply b_ext
  intro i hi
  rw [b_and, b_1 i hi, b_sshr k hk x hi]
  by_cases h : i = 0
  · subst h
    rw [if_pos (by omega)]
    show (bt x k && decide (0 = 0)) = bt (bI (bt x k)) 0
    cases bt x k <;> decide
  · simp only [h, decide_false, Bool.and_false]
    cases bt x k
    · exact (b_0 i).symm
    · show false = bt 1 i
      rw [b_1 i hi, decide_eq_false h]
/-- a transaction: open, stale, read cells, parts, written cells of each part, values of each part -/
abbrev xTS : Type := Bool × Bool × Int32 × Nat × (Nat → Int32) × (Nat → Nat → Int64)
abbrev xO (z : xTS) : Bool := z.1
abbrev xS (z : xTS) : Bool := z.2.1
abbrev xR (z : xTS) : Int32 := z.2.2.1
abbrev xP (z : xTS) : Nat := z.2.2.2.1
abbrev xW (z : xTS) : Nat → Int32 := z.2.2.2.2.1
abbrev xV (z : xTS) : Nat → Nat → Int64 := z.2.2.2.2.2
/-- the last of the first n parts in which cell k was written -/
def lastW (w : Nat → Int32) (k : Nat) : Nat → Option Nat
  | 0 => none
  | p + 1 => if bt (w p) k = true then some p else lastW w k p
def lastI (o : Option Nat) : Int32 := match o with
  | none => -1
  | some p => nI p
theorem lastW_lt {w : Nat → Int32} {k : Nat} : ∀ {n p : Nat}, lastW w k n = some p → p < n
  | 0, p, h => by cases h
  | n + 1, p, h => by
    unfold lastW at h
    by_cases hb : bt (w n) k = true
    · rw [if_pos hb] at h; cases h; omega
    · rw [if_neg hb] at h; have := lastW_lt h; omega
theorem lastW_bt {w : Nat → Int32} {k : Nat} : ∀ {n p : Nat}, lastW w k n = some p → bt (w p) k = true
  | 0, p, h => by cases h
  | n + 1, p, h => by
    unfold lastW at h
    by_cases hb : bt (w n) k = true
    · rw [if_pos hb] at h; cases h; exact hb
    · rw [if_neg hb] at h; exact lastW_bt h
def tStart (z : xTS) : xTS := (true, false, 0, 1, upd (xW z) 0 0, xV z)
def tClose (z : xTS) : xTS := (false, z.2)
def tMark (z : xTS) (k : Nat) : xTS := (xO z, xS z, xR z ||| sB k, z.2.2.2)
def tNote (z : xTS) (k : Nat) : xTS := if (xO z && bt (xR z) k) = true then (xO z, true, z.2.2) else z
def tPut (z : xTS) (p k : Nat) (x : Int64) : xTS := (xO z, xS z, xR z, xP z, upd (xW z) p (xW z p ||| sB k), va_up (xV z) p (vp_updL (xV z p) k x))
def tAdd (z : xTS) : xTS := (xO z, xS z, xR z, xP z + 1, upd (xW z) (xP z) 0, xV z)
def tDrop (z : xTS) : xTS := (xO z, xS z, xR z, xP z - 1, xW z, xV z)
def tMrg (z : xTS) (p : Nat) : Nat → xTS
  | 0 => z
  | k + 1 => if bt (xW (tMrg z p k) (p + 1)) k = true then tPut (tMrg z p k) p k (xV (tMrg z p k) (p + 1) k) else tMrg z p k
/-- the cells that one of the first n parts has written -/
def tAll (w : Nat → Int32) : Nat → Int32
  | 0 => 0
  | p + 1 => tAll w p ||| w p
/-- how many of the first n bits are set -/
def bCnt (x : Int32) : Nat → Nat
  | 0 => 0
  | n + 1 => bCnt x n + (if bt x n = true then 1 else 0)
/-- the desk: numbers, changes, transactions, done, stale -/
abbrev xDS : Type := (Nat → Int64) × (Nat → Int32) × (Nat → xTS) × Int32 × Int32
abbrev yN (d : xDS) : Nat → Int64 := d.1
abbrev yC (d : xDS) : Nat → Int32 := d.2.1
abbrev yT (d : xDS) : Nat → xTS := d.2.2.1
abbrev yD (d : xDS) : Int32 := d.2.2.2.1
abbrev yS (d : xDS) : Int32 := d.2.2.2.2
def yNote (f : Nat → xTS) (k : Nat) : Nat → Nat → xTS
  | 0 => f
  | n + 1 => va_up (yNote f k n) n (tNote (yNote f k n n) k)
def yChange (d : xDS) (k : Nat) (x : Int64) : xDS := (vp_updL (yN d) k x, upd (yC d) k (yC d k + 1), yNote (yT d) k 8, yD d, yS d)
def ySet (d : xDS) (t : Nat) (z : xTS) : xDS := (yN d, yC d, va_up (yT d) t z, yD d, yS d)
def yDoneN (t : Nat) (d : xDS) : Nat → xDS
  | 0 => d
  | k + 1 => match lastW (xW (yT (yDoneN t d k) t)) k (xP (yT (yDoneN t d k) t)) with
    | none => yDoneN t d k
    | some p => yChange (yDoneN t d k) k (xV (yT (yDoneN t d k) t) p k)
def yOpen (f : Nat → xTS) : Nat → Nat
  | 0 => 0
  | n + 1 => yOpen f n + (if xO (f n) = true then 1 else 0)
end
section
/-! What each call does: to the desk (y..) and to the reference (z..). -/
/-- the index that an int is, below n -/
def ix (n : Nat) (x : Int32) : Option Nat := if 0 ≤ x.toInt ∧ x.toInt < (n : Int) then some x.toInt.toNat else none
theorem ix_some {n j : Nat} {x : Int32} (hn : n < 2 ^ 31) (h : ix n x = some j) : j < n ∧ x = nI j := by
  unfold ix at h
  by_cases hc : 0 ≤ x.toInt ∧ x.toInt < (n : Int)
  · rw [if_pos hc] at h
    have hj : x.toInt.toNat = j := Option.some.inj h
    have h1 : x.toInt = (j : Int) := by omega
    refine ⟨by omega, Int32.toInt_inj.mp ?_⟩
    rw [nI_toInt (by omega)]
    exact h1
  · rw [if_neg hc] at h; cases h
theorem ix_none {n : Nat} {x : Int32} (hn : n < 2 ^ 31) (h : ix n x = none) : x < 0 ∨ nI n ≤ x := by
  unfold ix at h
  by_cases hc : 0 ≤ x.toInt ∧ x.toInt < (n : Int)
  · rw [if_pos hc] at h; cases h
  · rcases Int.lt_or_le x.toInt 0 with h0 | h0
    · left
      rw [Int32.lt_iff_toInt_lt, Int32.toInt_zero]
      exact h0
    · right
      rw [Int32.le_iff_toInt_le, nI_toInt hn]
      omega
theorem ix_nI {n j : Nat} (h : j < n) (hn : n < 2 ^ 31) : ix n (nI j) = some j := by
  unfold ix
  rw [nI_toInt (by omega), if_pos (by omega)]
  rfl
abbrev qA : String := "java/lang/IllegalArgumentException"
abbrev qS : String := "java/lang/IllegalStateException"
abbrev qB : String := "java/lang/IndexOutOfBoundsException"
abbrev qU : String := "java/lang/UnsupportedOperationException"
def yBegin (d : xDS) (t : Int32) : Option String × xDS := match ix 8 t with
  | none => (some qA, d)
  | some j => if xO (yT d j) = true then (some qS, d) else (none, ySet d j (tStart (yT d j)))
/-- the transaction ends, stale -/
def yEnd (d : xDS) (j : Nat) : xDS := (yN d, yC d, va_up (yT d) j (tClose (yT d j)), yD d, yS d + 1)
def yRead (d : xDS) (t k : Int32) : (Option String × Int64) × xDS := match ix 8 t with
  | none => ((some qA, 0), d)
  | some j => match ix 32 k with
    | none => ((some qB, 0), d)
    | some i => if xO (yT d j) = false then ((some qS, 0), d) else
      match lastW (xW (yT d j)) i (xP (yT d j)) with
      | some p => ((none, xV (yT d j) p i), d)
      | none => if xS (yT d j) = true then ((some qU, 0), yEnd d j) else ((none, yN d i), ySet d j (tMark (yT d j) i))
def yWrite (d : xDS) (t k : Int32) (x : Int64) : Option String × xDS := match ix 8 t with
  | none => (some qA, d)
  | some j => match ix 32 k with
    | none => (some qB, d)
    | some i => if xO (yT d j) = false then (some qS, d) else (none, ySet d j (tPut (yT d j) (xP (yT d j) - 1) i x))
def ySave (d : xDS) (t : Int32) : (Option String × Int32) × xDS := match ix 8 t with
  | none => ((some qA, 0), d)
  | some j => if xO (yT d j) = false then ((some qS, 0), d) else if 5 ≤ xP (yT d j) then ((some qU, 0), d) else ((none, nI (xP (yT d j) + 1)), ySet d j (tAdd (yT d j)))
def yBack (d : xDS) (t : Int32) : Option String × xDS := match ix 8 t with
  | none => (some qA, d)
  | some j => if xO (yT d j) = false then (some qS, d) else if xP (yT d j) ≤ 1 then (some qU, d) else (none, ySet d j (tDrop (yT d j)))
def yKeep (d : xDS) (t : Int32) : Option String × xDS := match ix 8 t with
  | none => (some qA, d)
  | some j => if xO (yT d j) = false then (some qS, d) else if xP (yT d j) ≤ 1 then (some qU, d) else (none, ySet d j (tDrop (tMrg (yT d j) (xP (yT d j) - 2) 32)))
def yDone (d : xDS) (t : Int32) : (Option String × Bool) × xDS := match ix 8 t with
  | none => ((some qA, false), d)
  | some j => if xO (yT d j) = false then ((some qS, false), d) else if xS (yT d j) = true then ((none, false), yEnd d j) else
    ((none, true), (yN (yDoneN j (ySet d j (tClose (yT d j))) 32), yC (yDoneN j (ySet d j (tClose (yT d j))) 32), yT (yDoneN j (ySet d j (tClose (yT d j))) 32), yD (yDoneN j (ySet d j (tClose (yT d j))) 32) + 1, yS (yDoneN j (ySet d j (tClose (yT d j))) 32)))
def yLeave (d : xDS) (t : Int32) : Option String × xDS := match ix 8 t with
  | none => (some qA, d)
  | some j => if xO (yT d j) = false then (some qS, d) else (none, ySet d j (tClose (yT d j)))
def yPut (d : xDS) (k : Int32) (x : Int64) : Option String × xDS := match ix 32 k with
  | none => (some qB, d)
  | some i => (none, yChange d i x)
def yCell (d : xDS) (k : Int32) : Option String × Int64 := match ix 32 k with
  | none => (some qB, 0)
  | some i => (none, yN d i)
def yChd (d : xDS) (k : Int32) : Option String × Int32 := match ix 32 k with
  | none => (some qB, 0)
  | some i => (none, yC d i)
def yCount (d : xDS) (t w : Int32) : Option String × Int32 := match ix 4 w with
  | none => (some qA, 0)
  | some c => match ix 8 t with
    | none => (some qA, 0)
    | some j => if xO (yT d j) = false then (some qS, 0) else
      (none, if c = 0 then nI (bCnt (xR (yT d j)) 32) else if c = 1 then nI (bCnt (tAll (xW (yT d j)) (xP (yT d j))) 32) else if c = 2 then nI (xP (yT d j)) else bI (xS (yT d j)))
def yAll (d : xDS) (w : Int32) : Option String × Int32 := match ix 3 w with
  | none => (some qA, 0)
  | some c => (none, if c = 0 then nI (yOpen (yT d) 8) else if c = 1 then yD d else yS d)
/-- the reference: err, cells, wrote, changes, parts, seen, has, read, open, done, stale -/
abbrev xRS : Type := Int32 × (Nat → Int64) × (Nat → Int64) × (Nat → Int32) × (Nat → Nat) × (Nat → Int32) × (Nat → Bool) × (Nat → Bool) × (Nat → Bool) × Int32 × Int32
abbrev zE (r : xRS) : Int32 := r.1
abbrev zC (r : xRS) : Nat → Int64 := r.2.1
abbrev zW (r : xRS) : Nat → Int64 := r.2.2.1
abbrev zG (r : xRS) : Nat → Int32 := r.2.2.2.1
abbrev zP (r : xRS) : Nat → Nat := r.2.2.2.2.1
abbrev zS (r : xRS) : Nat → Int32 := r.2.2.2.2.2.1
abbrev zH (r : xRS) : Nat → Bool := r.2.2.2.2.2.2.1
abbrev zR (r : xRS) : Nat → Bool := r.2.2.2.2.2.2.2.1
abbrev zO (r : xRS) : Nat → Bool := r.2.2.2.2.2.2.2.2.1
abbrev zD (r : xRS) : Int32 := r.2.2.2.2.2.2.2.2.2.1
abbrev zL (r : xRS) : Int32 := r.2.2.2.2.2.2.2.2.2.2
def zErr (r : xRS) (c : Int32) : xRS := (c, r.2)
/-- the place of cell k in the last part of t -/
def zAt (r : xRS) (t k : Nat) : Nat := (5 * t + zP r t - 1) * 32 + k
def zClr (f : Nat → Bool) (b : Nat) : Nat → Nat → Bool
  | 0 => f
  | n + 1 => va_up (zClr f b n) (b + n) false
def zCpB (f : Nat → Bool) (a b : Nat) : Nat → Nat → Bool
  | 0 => f
  | n + 1 => va_up (zCpB f a b n) (b + n) (zCpB f a b n (a + n))
def zCpL (f : Nat → Int64) (a b : Nat) : Nat → Nat → Int64
  | 0 => f
  | n + 1 => vp_updL (zCpL f a b n) (b + n) (zCpL f a b n (a + n))
def zSt (r : xRS) (t : Nat) : Nat → Bool
  | 0 => false
  | n + 1 => zSt r t n || (zR r (32 * t + n) && decide (zS r (32 * t + n) ≠ zG r n))
def zBegin (r : xRS) (t : Int32) : xRS := match ix 8 t with
  | none => zErr r 1
  | some j => if zO r j = true then zErr r 2 else (0, zC r, zW r, zG r, va_up (zP r) j 1, zS r, zClr (zH r) (160 * j) 32, zClr (zR r) (32 * j) 32, va_up (zO r) j true, zD r, zL r)
def zRead (r : xRS) (t k : Int32) : Int64 × xRS := match ix 8 t with
  | none => (0, zErr r 1)
  | some j => match ix 32 k with
    | none => (0, zErr r 2)
    | some i => if zO r j = false then (0, zErr r 3) else if zH r (zAt r j i) = true then (zW r (zAt r j i), zErr r 0) else
      if zSt r j 32 = true then (0, (4, zC r, zW r, zG r, zP r, zS r, zH r, zR r, va_up (zO r) j false, zD r, zL r + 1)) else
      (zC r i, (0, zC r, zW r, zG r, zP r, if zR r (32 * j + i) = true then zS r else upd (zS r) (32 * j + i) (zG r i), zH r, va_up (zR r) (32 * j + i) true, zO r, zD r, zL r))
def zWrite (r : xRS) (t k : Int32) (x : Int64) : xRS := match ix 8 t with
  | none => zErr r 1
  | some j => match ix 32 k with
    | none => zErr r 2
    | some i => if zO r j = false then zErr r 3 else (0, zC r, vp_updL (zW r) (zAt r j i) x, zG r, zP r, zS r, va_up (zH r) (zAt r j i) true, zR r, zO r, zD r, zL r)
def zSave (r : xRS) (t : Int32) : Int32 × xRS := match ix 8 t with
  | none => (0, zErr r 1)
  | some j => if zO r j = false then (0, zErr r 2) else if zP r j = 5 then (0, zErr r 3) else
    (nI (zP r j + 1), (0, zC r, zCpL (zW r) (zAt r j 0) (zAt r j 0 + 32) 32, zG r, va_up (zP r) j (zP r j + 1), zS r, zCpB (zH r) (zAt r j 0) (zAt r j 0 + 32) 32, zR r, zO r, zD r, zL r))
def zBack (r : xRS) (t : Int32) : xRS := match ix 8 t with
  | none => zErr r 1
  | some j => if zO r j = false then zErr r 2 else if zP r j = 1 then zErr r 3 else (0, zC r, zW r, zG r, va_up (zP r) j (zP r j - 1), zS r, zH r, zR r, zO r, zD r, zL r)
def zKeep (r : xRS) (t : Int32) : xRS := match ix 8 t with
  | none => zErr r 1
  | some j => if zO r j = false then zErr r 2 else if zP r j = 1 then zErr r 3 else
    (0, zC r, zCpL (zW r) (zAt r j 0) (zAt r j 0 - 32) 32, zG r, va_up (zP r) j (zP r j - 1), zS r, zCpB (zH r) (zAt r j 0) (zAt r j 0 - 32) 32, zR r, zO r, zD r, zL r)
def zDoneN (r : xRS) (t : Nat) : Nat → (Nat → Int64) × (Nat → Int32)
  | 0 => (zC r, zG r)
  | k + 1 => if zH r (zAt r t k) = true then (vp_updL (zDoneN r t k).1 k (zW r (zAt r t k)), upd (zDoneN r t k).2 k ((zDoneN r t k).2 k + 1)) else zDoneN r t k
def zDone (r : xRS) (t : Int32) : Bool × xRS := match ix 8 t with
  | none => (false, zErr r 1)
  | some j => if zO r j = false then (false, zErr r 2) else if zSt r j 32 = true then (false, (0, zC r, zW r, zG r, zP r, zS r, zH r, zR r, va_up (zO r) j false, zD r, zL r + 1)) else
    (true, (0, (zDoneN r j 32).1, zW r, (zDoneN r j 32).2, zP r, zS r, zH r, zR r, va_up (zO r) j false, zD r + 1, zL r))
def zLeave (r : xRS) (t : Int32) : xRS := match ix 8 t with
  | none => zErr r 1
  | some j => if zO r j = false then zErr r 2 else (0, zC r, zW r, zG r, zP r, zS r, zH r, zR r, va_up (zO r) j false, zD r, zL r)
def zPut (r : xRS) (k : Int32) (x : Int64) : xRS := match ix 32 k with
  | none => zErr r 1
  | some i => (0, vp_updL (zC r) i x, zW r, upd (zG r) i (zG r i + 1), r.2.2.2.2)
def zCell (r : xRS) (k : Int32) : Int64 × xRS := match ix 32 k with
  | none => (0, zErr r 1)
  | some i => (zC r i, zErr r 0)
def zChd (r : xRS) (k : Int32) : Int32 × xRS := match ix 32 k with
  | none => (0, zErr r 1)
  | some i => (zG r i, zErr r 0)
def zCntR (r : xRS) (t : Nat) : Nat → Nat
  | 0 => 0
  | n + 1 => zCntR r t n + (if zR r (32 * t + n) = true then 1 else 0)
def zCntH (r : xRS) (t : Nat) : Nat → Nat
  | 0 => 0
  | n + 1 => zCntH r t n + (if zH r (zAt r t n) = true then 1 else 0)
def zCount (r : xRS) (t w : Int32) : Int32 × xRS := match ix 8 t with
  | none => (0, zErr r 1)
  | some j => match ix 4 w with
    | none => (0, zErr r 1)
    | some c => if zO r j = false then (0, zErr r 2) else
      (if c = 0 then nI (zCntR r j 32) else if c = 1 then nI (zCntH r j 32) else if c = 2 then nI (zP r j) else bI (zSt r j 32), zErr r 0)
def zOpn (r : xRS) : Nat → Nat
  | 0 => 0
  | n + 1 => zOpn r n + (if zO r n = true then 1 else 0)
def zAll (r : xRS) (w : Int32) : Int32 × xRS := match ix 3 w with
  | none => (0, zErr r 1)
  | some c => (if c = 0 then nI (zOpn r 8) else if c = 1 then zD r else zL r, zErr r 0)
end
section
/-! The desk and the reference go side by side: pure, no machine. -/
theorem up_s {α : Type} (f : Nat → α) (k : Nat) (v : α) : va_up f k v k = v := va_up_self f k v
theorem zClr_at {f : Nat → Bool} {b : Nat} : ∀ (n j : Nat), zClr f b n j = if b ≤ j ∧ j < b + n then false else f j
  | 0, j => by rw [if_neg (by omega)]; rfl
  | n + 1, j => by
    show va_up (zClr f b n) (b + n) false j = _
    by_cases h : j = b + n
    · subst h; rw [va_up_self, if_pos (by omega)]
    · rw [va_up_ne _ _ h, zClr_at n j]
      by_cases h2 : b ≤ j ∧ j < b + n
      · rw [if_pos h2, if_pos (by omega)]
      · rw [if_neg h2, if_neg (by omega)]
theorem zCpB_at {f : Nat → Bool} {a b : Nat} : ∀ (n j : Nat), (a + n ≤ b ∨ b + n ≤ a) → zCpB f a b n j = if b ≤ j ∧ j < b + n then f (a + (j - b)) else f j
  | 0, j, _ => by rw [if_neg (by omega)]; rfl
  | n + 1, j, hd => by
    show va_up (zCpB f a b n) (b + n) (zCpB f a b n (a + n)) j = _
    by_cases h : j = b + n
    · subst h
      rw [va_up_self, if_pos (by omega), zCpB_at n (a + n) (by omega), if_neg (by omega)]
      congr 1; omega
    · rw [va_up_ne _ _ h, zCpB_at n j (by omega)]
      by_cases h2 : b ≤ j ∧ j < b + n
      · rw [if_pos h2, if_pos (by omega)]
      · rw [if_neg h2, if_neg (by omega)]
theorem zCpL_at {f : Nat → Int64} {a b : Nat} : ∀ (n j : Nat), (a + n ≤ b ∨ b + n ≤ a) → zCpL f a b n j = if b ≤ j ∧ j < b + n then f (a + (j - b)) else f j
  | 0, j, _ => by rw [if_neg (by omega)]; rfl
  | n + 1, j, hd => by
    show vp_updL (zCpL f a b n) (b + n) (zCpL f a b n (a + n)) j = _
    by_cases h : j = b + n
    · subst h
      rw [pk_uLs, if_pos (by omega), zCpL_at n (a + n) (by omega), if_neg (by omega)]
      congr 1; omega
    · rw [pk_uLn h, zCpL_at n j (by omega)]
      by_cases h2 : b ≤ j ∧ j < b + n
      · rw [if_pos h2, if_pos (by omega)]
      · rw [if_neg h2, if_neg (by omega)]
/-- what ties transaction t of the reference to a transaction of the desk -/
def SimO (r : xRS) (t : Nat) (z : xTS) : Prop := (1 ≤ xP z ∧ xP z ≤ 5 ∧ zP r t = xP z) ∧ (∀ k, k < 32 → bt (xR z) k = zR r (32 * t + k)) ∧ (∀ k, k < 32 → zR r (32 * t + k) = true → ∃ a c : Nat, a ≤ c ∧ c < 2 ^ 31 ∧ zS r (32 * t + k) = nI a ∧ zG r k = nI c) ∧ xS z = zSt r t 32 ∧
  ∀ p k, p < xP z → k < 32 → zH r ((5 * t + p) * 32 + k) = (lastW (xW z) k (p + 1)).isSome ∧ ∀ q, lastW (xW z) k (p + 1) = some q → zW r ((5 * t + p) * 32 + k) = xV z q k
def SimT (r : xRS) (t : Nat) (z : xTS) : Prop := xO z = zO r t ∧ (xO z = true → SimO r t z)
def Sim (b : Nat → Nat) (d : xDS) (r : xRS) : Prop := (∀ k, k < 32 → yN d k = zC r k) ∧ (∀ k, k < 32 → yC d k = zG r k) ∧ (∀ k, k < 32 → ∃ c : Nat, c ≤ b k ∧ zG r k = nI c) ∧ (yD d = zD r ∧ yS d = zL r) ∧ ∀ t, t < 8 → SimT r t (yT d t)
theorem zSt_eq {r r2 : xRS} {t : Nat} : ∀ n, n ≤ 32 → (∀ k, k < 32 → zR r2 (32 * t + k) = zR r (32 * t + k) ∧ (zR r (32 * t + k) = true → zS r2 (32 * t + k) = zS r (32 * t + k)) ∧ zG r2 k = zG r k) → zSt r2 t n = zSt r t n
  | 0, _, _ => rfl
  | n + 1, hn, h => by
    obtain ⟨h1, h2, h3⟩ := h n (by omega)
    show (zSt r2 t n || (zR r2 (32 * t + n) && decide (zS r2 (32 * t + n) ≠ zG r2 n))) = (zSt r t n || (zR r (32 * t + n) && decide (zS r (32 * t + n) ≠ zG r n)))
    rw [zSt_eq n (by omega) h, h1, h3]
    cases hb : zR r (32 * t + n)
    · rfl
    · rw [h2 hb]
/-- the reference's places of t are as they were: what ties it to t stays -/
theorem SimO.same {r r2 : xRS} {t : Nat} {z : xTS} (h : SimO r t z) (hP : zP r2 t = zP r t) (hR : ∀ k, k < 32 → zR r2 (32 * t + k) = zR r (32 * t + k)) (hS : ∀ k, k < 32 → zS r2 (32 * t + k) = zS r (32 * t + k)) (hG : ∀ k, k < 32 → zG r2 k = zG r k)
    (hH : ∀ i, 160 * t ≤ i → i < 160 * t + 160 → zH r2 i = zH r i) (hW : ∀ i, 160 * t ≤ i → i < 160 * t + 160 → zW r2 i = zW r i) : SimO r2 t z := by
  obtain ⟨⟨h1, h2, h3⟩, h4, h5, h6, h7⟩ := h
  refine ⟨⟨h1, h2, hP.trans h3⟩, fun k hk => (h4 k hk).trans (hR k hk).symm, fun k hk hr => ?_, ?_, fun p k hp hk => ?_⟩
  · rw [hR k hk] at hr
    rw [hS k hk, hG k hk]
    exact h5 k hk hr
  · rw [h6]
    exact (zSt_eq 32 (by omega) (fun k hk => ⟨hR k hk, fun _ => hS k hk, hG k hk⟩)).symm
  · have hl : 160 * t ≤ (5 * t + p) * 32 + k ∧ (5 * t + p) * 32 + k < 160 * t + 160 := by omega
    rw [hH _ hl.1 hl.2, hW _ hl.1 hl.2]
    exact h7 p k hp hk
theorem tNote_cl {z : xTS} {k : Nat} (h : xO z = false) : tNote z k = z := by
  unfold tNote
  rw [h, if_neg (by simp)]
theorem tNote_op {z : xTS} {k : Nat} (h : xO z = true) : tNote z k = (xO z, xS z || bt (xR z) k, z.2.2) := by
  unfold tNote
  rw [h]
  cases hb : bt (xR z) k
  · rw [if_neg (by simp)]
    obtain ⟨o, s, rest⟩ := z
    cases h
    simp
  · rw [if_pos (by simp)]
    simp
theorem yNote_at {f : Nat → xTS} {k : Nat} : ∀ n t, yNote f k n t = if t < n then tNote (f t) k else f t
  | 0, t => by rw [if_neg (by omega)]; rfl
  | n + 1, t => by
    show va_up (yNote f k n) n (tNote (yNote f k n n) k) t = _
    by_cases h : t = n
    · subst h
      rw [va_up_self, yNote_at t t, if_neg (by omega), if_pos (by omega)]
    · rw [va_up_ne _ _ h, yNote_at n t]
      by_cases h2 : t < n
      · rw [if_pos h2, if_pos (by omega)]
      · rw [if_neg h2, if_neg (by omega)]
/-- the reference behind a change of cell k -/
def zChg (r : xRS) (k : Nat) (x : Int64) : xRS := (zE r, vp_updL (zC r) k x, zW r, upd (zG r) k (zG r k + 1), r.2.2.2.2)
theorem zSt_chg {r : xRS} {t k c : Nat} {x : Int64} (hk : k < 32) (hc : zG r k = nI c) (hcb : c + 1 < 2 ^ 31) (hs : zR r (32 * t + k) = true → ∃ a, a ≤ c ∧ zS r (32 * t + k) = nI a) : ∀ m, m ≤ 32 → zSt (zChg r k x) t m = (zSt r t m || (decide (k < m) && zR r (32 * t + k)))
  | 0, _ => by simp [zSt]
  | m + 1, hm => by
    show (zSt (zChg r k x) t m || (zR r (32 * t + m) && decide (zS r (32 * t + m) ≠ upd (zG r) k (zG r k + 1) m))) = ((zSt r t m || (zR r (32 * t + m) && decide (zS r (32 * t + m) ≠ zG r m))) || (decide (k < m + 1) && zR r (32 * t + k)))
    rw [zSt_chg hk hc hcb hs m (by omega)]
    by_cases h : m = k
    · subst h
      rw [pk_us]
      have e1 : decide (m < m) = false := decide_eq_false (by omega)
      have e2 : decide (m < m + 1) = true := decide_eq_true (by omega)
      rw [e1, e2]
      cases hr : zR r (32 * t + m)
      · simp
      · obtain ⟨a, ha, hsa⟩ := hs hr
        have e3 : decide (zS r (32 * t + m) ≠ zG r m + 1) = true := decide_eq_true (by
          rw [hsa, hc, nI_1]
          intro q
          have := (nI_eq (by omega) (by omega)).mp q
          omega)
        rw [e3]
        simp
    · rw [pk_un h]
      have e1 : decide (k < m + 1) = decide (k < m) := by rw [decide_eq_decide]; omega
      rw [e1]
      cases zSt r t m <;> cases (zR r (32 * t + m) && decide (zS r (32 * t + m) ≠ zG r m)) <;> simp
theorem SimT.note {r : xRS} {t k c : Nat} {x : Int64} {z : xTS} (h : SimT r t z) (hk : k < 32) (hc : zG r k = nI c) (hcb : c + 1 < 2 ^ 31) : SimT (zChg r k x) t (tNote z k) := by
  obtain ⟨h0, h1⟩ := h
  cases ho : xO z
  · rw [tNote_cl ho]
    exact ⟨h0, fun q => by rw [ho] at q; cases q⟩
  · obtain ⟨h2, h3, h4, h5, h6⟩ := h1 ho
    have hs : zR r (32 * t + k) = true → ∃ a, a ≤ c ∧ zS r (32 * t + k) = nI a := fun hr => by
      obtain ⟨a, c2, q1, q0, q2, q3⟩ := h4 k hk hr
      have := (nI_eq (a := c2) (b := c) q0 (by omega)).mp (q3.symm.trans hc)
      exact ⟨a, by omega, q2⟩
    rw [tNote_op ho]
    refine ⟨h0, fun _ => ⟨h2, h3, fun j hj hr => ?_, ?_, h6⟩⟩
    · obtain ⟨a, c2, q1, q0, q2, q3⟩ := h4 j hj hr
      by_cases hjk : j = k
      · subst hjk
        obtain ⟨a2, q4, q5⟩ := hs hr
        refine ⟨a2, c + 1, by omega, hcb, q5, ?_⟩
        show upd (zG r) j (zG r j + 1) j = _
        rw [pk_us, hc, nI_1]
      · refine ⟨a, c2, q1, q0, q2, ?_⟩
        show upd (zG r) k (zG r k + 1) j = _
        rw [pk_un hjk]
        exact q3
    · show (xS z || bt (xR z) k) = zSt (zChg r k x) t 32
      rw [zSt_chg hk hc hcb hs 32 (by omega), h5, h3 k hk]
      have e1 : decide (k < 32) = true := decide_eq_true hk
      rw [e1]
      simp
theorem Sim.wide {b b2 : Nat → Nat} {d : xDS} {r : xRS} (h : Sim b d r) (hb : ∀ k, k < 32 → b k ≤ b2 k) : Sim b2 d r := by
  obtain ⟨h1, h2, h3, h4, h5⟩ := h
  refine ⟨h1, h2, fun k hk => ?_, h4, h5⟩
  obtain ⟨c, q1, q2⟩ := h3 k hk
  exact ⟨c, Nat.le_trans q1 (hb k hk), q2⟩
theorem Sim.change {b : Nat → Nat} {d : xDS} {r : xRS} {k : Nat} {x : Int64} (h : Sim b d r) (hk : k < 32) (hb : b k + 1 < 2 ^ 31) : Sim (va_up b k (b k + 1)) (yChange d k x) (zChg r k x) := by
  obtain ⟨h1, h2, h3, h4, h5⟩ := h
  obtain ⟨c, q1, q2⟩ := h3 k hk
  refine ⟨fun j hj => ?_, fun j hj => ?_, fun j hj => ?_, h4, fun t ht => ?_⟩
  · show vp_updL (yN d) k x j = vp_updL (zC r) k x j
    by_cases e : j = k
    · subst e; rw [pk_uLs, pk_uLs]
    · rw [pk_uLn e, pk_uLn e]; exact h1 j hj
  · show upd (yC d) k (yC d k + 1) j = upd (zG r) k (zG r k + 1) j
    by_cases e : j = k
    · subst e; rw [pk_us, pk_us, h2 j hj]
    · rw [pk_un e, pk_un e]; exact h2 j hj
  · show ∃ c : Nat, c ≤ va_up b k (b k + 1) j ∧ upd (zG r) k (zG r k + 1) j = nI c
    by_cases e : j = k
    · subst e
      exact ⟨c + 1, by rw [va_up_self]; omega, by rw [pk_us, q2, nI_1]⟩
    · rw [va_up_ne _ _ e, pk_un e]; exact h3 j hj
  · show SimT (zChg r k x) t (yNote (yT d) k 8 t)
    rw [yNote_at, if_pos ht]
    exact (h5 t ht).note hk q2 (by omega)
/-- only what ties transaction j changes -/
theorem Sim.at {b : Nat → Nat} {d : xDS} {r r2 : xRS} {j : Nat} {z : xTS} {l : Int32} (h : Sim b d r) (hC : zC r2 = zC r) (hG : zG r2 = zG r) (hD : yD d = zD r2) (hL : l = zL r2) (hj : SimT r2 j z)
    (hO : ∀ t, t < 8 → t ≠ j → zO r2 t = zO r t ∧ zP r2 t = zP r t ∧ (∀ k, k < 32 → zR r2 (32 * t + k) = zR r (32 * t + k)) ∧ (∀ k, k < 32 → zS r2 (32 * t + k) = zS r (32 * t + k)) ∧ (∀ i, 160 * t ≤ i → i < 160 * t + 160 → zH r2 i = zH r i) ∧ (∀ i, 160 * t ≤ i → i < 160 * t + 160 → zW r2 i = zW r i)) :
    Sim b (yN d, yC d, va_up (yT d) j z, yD d, l) r2 := by
  obtain ⟨h1, h2, h3, h4, h5⟩ := h
  refine ⟨fun k hk => ?_, fun k hk => ?_, fun k hk => ?_, ⟨hD, hL⟩, fun t ht => ?_⟩
  · rw [hC]; exact h1 k hk
  · rw [hG]; exact h2 k hk
  · rw [hG]; exact h3 k hk
  · show SimT r2 t (va_up (yT d) j z t)
    by_cases e : t = j
    · subst e; rw [va_up_self]; exact hj
    · rw [va_up_ne _ _ e]
      obtain ⟨g1, g2, g3, g4, g5, g6⟩ := hO t ht e
      obtain ⟨f0, f1⟩ := h5 t ht
      exact ⟨f0.trans g1.symm, fun ho => (f1 ho).same g2 g3 g4 (fun k _ => by rw [hG]) g5 g6⟩
/-- the code that a wrapper of the law gives to what was thrown -/
def cdOf (L : List String) (o : Option String) : Int32 := match o with
  | none => 0
  | some X => nI (L.idxOf X + 1)
theorem cd0 (L : List String) : (0 : Int32) = cdOf L none := rfl
theorem cdA1 : (1 : Int32) = cdOf [qA, qS] (some qA) := by decide +kernel
theorem cdA2 : (2 : Int32) = cdOf [qA, qS] (some qS) := by decide +kernel
theorem cdB1 : (1 : Int32) = cdOf [qA, qB, qS, qU] (some qA) := by decide +kernel
theorem cdB2 : (2 : Int32) = cdOf [qA, qB, qS, qU] (some qB) := by decide +kernel
theorem cdB3 : (3 : Int32) = cdOf [qA, qB, qS, qU] (some qS) := by decide +kernel
theorem cdB4 : (4 : Int32) = cdOf [qA, qB, qS, qU] (some qU) := by decide +kernel
theorem cdC1 : (1 : Int32) = cdOf [qA, qB, qS] (some qA) := by decide +kernel
theorem cdC2 : (2 : Int32) = cdOf [qA, qB, qS] (some qB) := by decide +kernel
theorem cdC3 : (3 : Int32) = cdOf [qA, qB, qS] (some qS) := by decide +kernel
theorem cdD1 : (1 : Int32) = cdOf [qA, qS, qU] (some qA) := by decide +kernel
theorem cdD2 : (2 : Int32) = cdOf [qA, qS, qU] (some qS) := by decide +kernel
theorem cdD3 : (3 : Int32) = cdOf [qA, qS, qU] (some qU) := by decide +kernel
theorem cdE1 : (1 : Int32) = cdOf [qB] (some qB) := by decide +kernel
theorem cdF1 : (1 : Int32) = cdOf [qA] (some qA) := by decide +kernel
theorem lastW_s {w : Nat → Int32} {k n : Nat} : lastW w k (n + 1) = if bt (w n) k = true then some n else lastW w k n := rfl
theorem lastW_eq {w w2 : Nat → Int32} {k : Nat} : ∀ n, (∀ p, p < n → bt (w2 p) k = bt (w p) k) → lastW w2 k n = lastW w k n
  | 0, _ => rfl
  | n + 1, h => by
    rw [lastW_s, lastW_s, h n (by omega), lastW_eq n (fun p hp => h p (by omega))]
theorem zSt_f {r : xRS} {t : Nat} : ∀ n, (∀ k, k < n → zR r (32 * t + k) = false) → zSt r t n = false
  | 0, _ => rfl
  | n + 1, h => by
    show (zSt r t n || (zR r (32 * t + n) && decide (zS r (32 * t + n) ≠ zG r n))) = false
    rw [zSt_f n (fun k hk => h k (by omega)), h n (by omega)]
    rfl
theorem sim_begin {b : Nat → Nat} {d : xDS} {r : xRS} (h : Sim b d r) (t : Int32) : zE (zBegin r t) = cdOf [qA, qS] (yBegin d t).1 ∧ Sim b (yBegin d t).2 (zBegin r t) := by
  unfold zBegin yBegin
  cases hx : ix 8 t with
  | none => exact ⟨(by first | exact cd0 _ | exact cdA1 | exact cdA2 | exact cdB1 | exact cdB2 | exact cdB3 | exact cdB4 | exact cdC1 | exact cdC2 | exact cdC3 | exact cdD1 | exact cdD2 | exact cdD3 | exact cdE1 | exact cdF1), h⟩
  | some j =>
    obtain ⟨hj, -⟩ := ix_some (by decide) hx
    have hT := h.2.2.2.2 j hj
    dsimp only
    rw [← hT.1]
    by_cases ho : xO (yT d j) = true
    · rw [if_pos ho, if_pos ho]
      exact ⟨(by first | exact cd0 _ | exact cdA1 | exact cdA2 | exact cdB1 | exact cdB2 | exact cdB3 | exact cdB4 | exact cdC1 | exact cdC2 | exact cdC3 | exact cdD1 | exact cdD2 | exact cdD3 | exact cdE1 | exact cdF1), h⟩
    · rw [if_neg ho, if_neg ho]
      refine ⟨(by first | exact cd0 _ | exact cdA1 | exact cdA2 | exact cdB1 | exact cdB2 | exact cdB3 | exact cdB4 | exact cdC1 | exact cdC2 | exact cdC3 | exact cdD1 | exact cdD2 | exact cdD3 | exact cdE1 | exact cdF1), ?_⟩
      refine Sim.at (l := yS d) h rfl rfl h.2.2.2.1.1 h.2.2.2.1.2 ?_ ?_
      · refine ⟨by show true = va_up (zO r) j true j; rw [va_up_self], fun _ => ⟨⟨Nat.le_refl _, by show 1 ≤ 5; omega, by show va_up (zP r) j 1 j = 1; rw [va_up_self]⟩, fun k hk => ?_, fun k hk hr => ?_, ?_, fun p k hp hk => ?_⟩⟩
        · show bt 0 k = zClr (zR r) (32 * j) 32 (32 * j + k)
          rw [b_0, zClr_at, if_pos (by omega)]
        · have hr2 : zClr (zR r) (32 * j) 32 (32 * j + k) = true := hr
          rw [zClr_at, if_pos (by omega)] at hr2
          cases hr2
        · show false = zSt _ j 32
          rw [zSt_f]
          intro k hk
          show zClr (zR r) (32 * j) 32 (32 * j + k) = false
          rw [zClr_at, if_pos (by omega)]
        · have hp0 : p = 0 := by
            have : p < 1 := hp
            omega
          subst hp0
          have e1 : lastW (upd (xW (yT d j)) 0 0) k (0 + 1) = none := by
            rw [lastW_s, pk_us, b_0]; rfl
          show zClr (zH r) (160 * j) 32 ((5 * j + 0) * 32 + k) = (lastW (upd (xW (yT d j)) 0 0) k (0 + 1)).isSome ∧ ∀ q, lastW (upd (xW (yT d j)) 0 0) k (0 + 1) = some q → _
          rw [e1, zClr_at, if_pos (by omega)]
          exact ⟨rfl, fun q hq => by cases hq⟩
      · intro t2 ht2 hne
        refine ⟨va_up_ne _ _ hne, va_up_ne _ _ hne, fun k hk => ?_, fun k _ => rfl, fun i h1 h2 => ?_, fun i _ _ => rfl⟩
        · show zClr (zR r) (32 * j) 32 (32 * t2 + k) = _
          rw [zClr_at, if_neg (by omega)]
        · show zClr (zH r) (160 * j) 32 i = _
          rw [zClr_at, if_neg (by omega)]
theorem simT_cl {r : xRS} {j : Nat} {z : xTS} (h : zO r j = false) : SimT r j (tClose z) := ⟨h.symm, fun q => by cases q⟩
theorem sim_leave {b : Nat → Nat} {d : xDS} {r : xRS} (h : Sim b d r) (t : Int32) : zE (zLeave r t) = cdOf [qA, qS] (yLeave d t).1 ∧ Sim b (yLeave d t).2 (zLeave r t) := by
  unfold zLeave yLeave
  cases hx : ix 8 t with
  | none => exact ⟨(by first | exact cd0 _ | exact cdA1 | exact cdA2 | exact cdB1 | exact cdB2 | exact cdB3 | exact cdB4 | exact cdC1 | exact cdC2 | exact cdC3 | exact cdD1 | exact cdD2 | exact cdD3 | exact cdE1 | exact cdF1), h⟩
  | some j =>
    obtain ⟨hj, -⟩ := ix_some (by decide) hx
    have hT := h.2.2.2.2 j hj
    dsimp only
    rw [← hT.1]
    by_cases ho : xO (yT d j) = false
    · rw [if_pos ho, if_pos ho]
      exact ⟨(by first | exact cd0 _ | exact cdA1 | exact cdA2 | exact cdB1 | exact cdB2 | exact cdB3 | exact cdB4 | exact cdC1 | exact cdC2 | exact cdC3 | exact cdD1 | exact cdD2 | exact cdD3 | exact cdE1 | exact cdF1), h⟩
    · rw [if_neg ho, if_neg ho]
      refine ⟨(by first | exact cd0 _ | exact cdA1 | exact cdA2 | exact cdB1 | exact cdB2 | exact cdB3 | exact cdB4 | exact cdC1 | exact cdC2 | exact cdC3 | exact cdD1 | exact cdD2 | exact cdD3 | exact cdE1 | exact cdF1), ?_⟩
      refine Sim.at (l := yS d) h rfl rfl h.2.2.2.1.1 h.2.2.2.1.2 (simT_cl (by show va_up (zO r) j false j = false; rw [va_up_self])) ?_
      intro t2 ht2 hne
      exact ⟨va_up_ne _ _ hne, rfl, fun k _ => rfl, fun k _ => rfl, fun i _ _ => rfl, fun i _ _ => rfl⟩
theorem sim_put {b : Nat → Nat} {d : xDS} {r : xRS} (h : Sim b d r) (hb : ∀ k, k < 32 → b k + 1 < 2 ^ 31) (k : Int32) (x : Int64) : zE (zPut r k x) = cdOf [qB] (yPut d k x).1 ∧ Sim (fun i => b i + 1) (yPut d k x).2 (zPut r k x) := by
  unfold zPut yPut
  cases hx : ix 32 k with
  | none => exact ⟨(by first | exact cd0 _ | exact cdA1 | exact cdA2 | exact cdB1 | exact cdB2 | exact cdB3 | exact cdB4 | exact cdC1 | exact cdC2 | exact cdC3 | exact cdD1 | exact cdD2 | exact cdD3 | exact cdE1 | exact cdF1), Sim.wide h (fun i _ => Nat.le_succ _)⟩
  | some i =>
    obtain ⟨hi, -⟩ := ix_some (by decide) hx
    refine ⟨(by first | exact cd0 _ | exact cdA1 | exact cdA2 | exact cdB1 | exact cdB2 | exact cdB3 | exact cdB4 | exact cdC1 | exact cdC2 | exact cdC3 | exact cdD1 | exact cdD2 | exact cdD3 | exact cdE1 | exact cdF1), ?_⟩
    have h1 := Sim.change (x := x) h hi (hb i hi)
    have h2 : Sim (va_up b i (b i + 1)) (yChange d i x) (0, vp_updL (zC r) i x, zW r, upd (zG r) i (zG r i + 1), r.2.2.2.2) := h1
    refine Sim.wide h2 (fun j _ => ?_)
    by_cases e : j = i
    · subst e; rw [va_up_self]; exact Nat.le_refl _
    · rw [va_up_ne _ _ e]; exact Nat.le_succ _
theorem sim_cell {b : Nat → Nat} {d : xDS} {r : xRS} (h : Sim b d r) (k : Int32) : zE (zCell r k).2 = cdOf [qB] (yCell d k).1 ∧ Sim b d (zCell r k).2 ∧ ((yCell d k).1 = none → (yCell d k).2 = (zCell r k).1) := by
  unfold zCell yCell
  cases hx : ix 32 k with
  | none => exact ⟨(by first | exact cd0 _ | exact cdA1 | exact cdA2 | exact cdB1 | exact cdB2 | exact cdB3 | exact cdB4 | exact cdC1 | exact cdC2 | exact cdC3 | exact cdD1 | exact cdD2 | exact cdD3 | exact cdE1 | exact cdF1), h, fun q => by cases q⟩
  | some i =>
    obtain ⟨hi, -⟩ := ix_some (by decide) hx
    exact ⟨(by first | exact cd0 _ | exact cdA1 | exact cdA2 | exact cdB1 | exact cdB2 | exact cdB3 | exact cdB4 | exact cdC1 | exact cdC2 | exact cdC3 | exact cdD1 | exact cdD2 | exact cdD3 | exact cdE1 | exact cdF1), h, fun _ => h.1 i hi⟩
theorem sim_chd {b : Nat → Nat} {d : xDS} {r : xRS} (h : Sim b d r) (k : Int32) : zE (zChd r k).2 = cdOf [qB] (yChd d k).1 ∧ Sim b d (zChd r k).2 ∧ ((yChd d k).1 = none → (yChd d k).2 = (zChd r k).1) := by
  unfold zChd yChd
  cases hx : ix 32 k with
  | none => exact ⟨(by first | exact cd0 _ | exact cdA1 | exact cdA2 | exact cdB1 | exact cdB2 | exact cdB3 | exact cdB4 | exact cdC1 | exact cdC2 | exact cdC3 | exact cdD1 | exact cdD2 | exact cdD3 | exact cdE1 | exact cdF1), h, fun q => by cases q⟩
  | some i =>
    obtain ⟨hi, -⟩ := ix_some (by decide) hx
    exact ⟨(by first | exact cd0 _ | exact cdA1 | exact cdA2 | exact cdB1 | exact cdB2 | exact cdB3 | exact cdB4 | exact cdC1 | exact cdC2 | exact cdC3 | exact cdD1 | exact cdD2 | exact cdD3 | exact cdE1 | exact cdF1), h, fun _ => h.2.1 i hi⟩
theorem opn_eq {d : xDS} {r : xRS} : ∀ n, (∀ t, t < n → xO (yT d t) = zO r t) → yOpen (yT d) n = zOpn r n
  | 0, _ => rfl
  | n + 1, h => by
    show yOpen (yT d) n + (if xO (yT d n) = true then 1 else 0) = zOpn r n + (if zO r n = true then 1 else 0)
    rw [opn_eq n (fun t ht => h t (by omega)), h n (by omega)]
theorem sim_all {b : Nat → Nat} {d : xDS} {r : xRS} (h : Sim b d r) (w : Int32) : zE (zAll r w).2 = cdOf [qA] (yAll d w).1 ∧ Sim b d (zAll r w).2 ∧ ((yAll d w).1 = none → (yAll d w).2 = (zAll r w).1) := by
  unfold zAll yAll
  cases hx : ix 3 w with
  | none => exact ⟨(by first | exact cd0 _ | exact cdA1 | exact cdA2 | exact cdB1 | exact cdB2 | exact cdB3 | exact cdB4 | exact cdC1 | exact cdC2 | exact cdC3 | exact cdD1 | exact cdD2 | exact cdD3 | exact cdE1 | exact cdF1), h, fun q => by cases q⟩
  | some c =>
    refine ⟨(by first | exact cd0 _ | exact cdA1 | exact cdA2 | exact cdB1 | exact cdB2 | exact cdB3 | exact cdB4 | exact cdC1 | exact cdC2 | exact cdC3 | exact cdD1 | exact cdD2 | exact cdD3 | exact cdE1 | exact cdF1), h, fun _ => ?_⟩
    dsimp only
    rw [opn_eq 8 (fun t ht => (h.2.2.2.2 t ht).1), h.2.2.2.1.1, h.2.2.2.1.2]
theorem tAll_bt {w : Nat → Int32} {k : Nat} : ∀ n, bt (tAll w n) k = (lastW w k n).isSome
  | 0 => b_0 k
  | n + 1 => by
    show bt (tAll w n ||| w n) k = _
    rw [b_or, tAll_bt n, lastW_s]
    cases hb : bt (w n) k
    · rw [if_neg (by decide)]; simp
    · rw [if_pos rfl]; simp
theorem cntR_eq {r : xRS} {t : Nat} {x : Int32} : ∀ n, (∀ k, k < n → bt x k = zR r (32 * t + k)) → bCnt x n = zCntR r t n
  | 0, _ => rfl
  | n + 1, h => by
    show bCnt x n + (if bt x n = true then 1 else 0) = zCntR r t n + (if zR r (32 * t + n) = true then 1 else 0)
    rw [cntR_eq n (fun k hk => h k (by omega)), h n (by omega)]
theorem cntH_eq {r : xRS} {t : Nat} {x : Int32} : ∀ n, (∀ k, k < n → bt x k = zH r (zAt r t k)) → bCnt x n = zCntH r t n
  | 0, _ => rfl
  | n + 1, h => by
    show bCnt x n + (if bt x n = true then 1 else 0) = zCntH r t n + (if zH r (zAt r t n) = true then 1 else 0)
    rw [cntH_eq n (fun k hk => h k (by omega)), h n (by omega)]
/-- what the last part of an open transaction shows -/
theorem SimO.lst {r : xRS} {t k : Nat} {z : xTS} (h : SimO r t z) (hk : k < 32) : zH r (zAt r t k) = (lastW (xW z) k (xP z)).isSome ∧ ∀ q, lastW (xW z) k (xP z) = some q → zW r (zAt r t k) = xV z q k := by
  obtain ⟨⟨h1, h2, h3⟩, -, -, -, h6⟩ := h
  have h7 := h6 (xP z - 1) k (by omega) hk
  rw [Nat.sub_add_cancel h1] at h7
  have e1 : zAt r t k = (5 * t + (xP z - 1)) * 32 + k := by
    unfold zAt
    rw [h3]
    omega
  rw [e1]
  exact h7
theorem sim_count {b : Nat → Nat} {d : xDS} {r : xRS} (h : Sim b d r) (t w : Int32) : zE (zCount r t w).2 = cdOf [qA, qS] (yCount d t w).1 ∧ Sim b d (zCount r t w).2 ∧ ((yCount d t w).1 = none → (yCount d t w).2 = (zCount r t w).1) := by
  unfold zCount yCount
  cases hw : ix 4 w with
  | none =>
    cases hx : ix 8 t with
    | none => exact ⟨(by first | exact cd0 _ | exact cdA1 | exact cdA2 | exact cdB1 | exact cdB2 | exact cdB3 | exact cdB4 | exact cdC1 | exact cdC2 | exact cdC3 | exact cdD1 | exact cdD2 | exact cdD3 | exact cdE1 | exact cdF1), h, fun q => by cases q⟩
    | some j => exact ⟨(by first | exact cd0 _ | exact cdA1 | exact cdA2 | exact cdB1 | exact cdB2 | exact cdB3 | exact cdB4 | exact cdC1 | exact cdC2 | exact cdC3 | exact cdD1 | exact cdD2 | exact cdD3 | exact cdE1 | exact cdF1), h, fun q => by cases q⟩
  | some c =>
    cases hx : ix 8 t with
    | none => exact ⟨(by first | exact cd0 _ | exact cdA1 | exact cdA2 | exact cdB1 | exact cdB2 | exact cdB3 | exact cdB4 | exact cdC1 | exact cdC2 | exact cdC3 | exact cdD1 | exact cdD2 | exact cdD3 | exact cdE1 | exact cdF1), h, fun q => by cases q⟩
    | some j =>
      obtain ⟨hj, -⟩ := ix_some (by decide) hx
      have hT := h.2.2.2.2 j hj
      dsimp only
      rw [← hT.1]
      by_cases ho : xO (yT d j) = false
      · rw [if_pos ho, if_pos ho]
        exact ⟨(by first | exact cd0 _ | exact cdA1 | exact cdA2 | exact cdB1 | exact cdB2 | exact cdB3 | exact cdB4 | exact cdC1 | exact cdC2 | exact cdC3 | exact cdD1 | exact cdD2 | exact cdD3 | exact cdE1 | exact cdF1), h, fun q => by cases q⟩
      · rw [if_neg ho, if_neg ho]
        refine ⟨(by first | exact cd0 _ | exact cdA1 | exact cdA2 | exact cdB1 | exact cdB2 | exact cdB3 | exact cdB4 | exact cdC1 | exact cdC2 | exact cdC3 | exact cdD1 | exact cdD2 | exact cdD3 | exact cdE1 | exact cdF1), h, fun _ => ?_⟩
        have hO := hT.2 (by cases hb : xO (yT d j); exact absurd hb ho; rfl)
        dsimp only
        rw [cntR_eq 32 hO.2.1, cntH_eq (t := j) (r := r) 32 (fun k hk => by rw [tAll_bt]; exact (hO.lst hk).1.symm), ← hO.1.2.2, ← hO.2.2.2.1]
theorem put_w {z : xTS} {P i : Nat} {x : Int64} {q k : Nat} (hi : i < 32) (hk : k < 32) : bt (xW (tPut z P i x) q) k = (bt (xW z q) k || (decide (q = P) && decide (k = i))) := by
  show bt (upd (xW z) P (xW z P ||| sB i) q) k = _
  by_cases e : q = P
  · subst e; rw [pk_us, or_bt hi hk]; simp
  · rw [pk_un e]; simp [e]
theorem put_last {z : xTS} {P i : Nat} {x : Int64} {k : Nat} (hi : i < 32) (hk : k < 32) (n : Nat) (h : k ≠ i ∨ n ≤ P) : lastW (xW (tPut z P i x)) k n = lastW (xW z) k n := by
  refine lastW_eq n (fun p hp => ?_)
  rw [put_w hi hk]
  have : (decide (p = P) && decide (k = i)) = false := by
    rcases h with h | h
    · simp [h]
    · simp [show p ≠ P by omega]
  rw [this, Bool.or_false]
theorem sim_write {b : Nat → Nat} {d : xDS} {r : xRS} (h : Sim b d r) (t k : Int32) (x : Int64) : zE (zWrite r t k x) = cdOf [qA, qB, qS] (yWrite d t k x).1 ∧ Sim b (yWrite d t k x).2 (zWrite r t k x) := by
  unfold zWrite yWrite
  cases hx : ix 8 t with
  | none => exact ⟨(by first | exact cd0 _ | exact cdA1 | exact cdA2 | exact cdB1 | exact cdB2 | exact cdB3 | exact cdB4 | exact cdC1 | exact cdC2 | exact cdC3 | exact cdD1 | exact cdD2 | exact cdD3 | exact cdE1 | exact cdF1), h⟩
  | some j =>
    obtain ⟨hj, -⟩ := ix_some (by decide) hx
    cases hy : ix 32 k with
    | none => exact ⟨(by first | exact cd0 _ | exact cdA1 | exact cdA2 | exact cdB1 | exact cdB2 | exact cdB3 | exact cdB4 | exact cdC1 | exact cdC2 | exact cdC3 | exact cdD1 | exact cdD2 | exact cdD3 | exact cdE1 | exact cdF1), h⟩
    | some i =>
      obtain ⟨hi, -⟩ := ix_some (by decide) hy
      have hT := h.2.2.2.2 j hj
      dsimp only
      rw [← hT.1]
      by_cases ho : xO (yT d j) = false
      · rw [if_pos ho, if_pos ho]
        exact ⟨(by first | exact cd0 _ | exact cdA1 | exact cdA2 | exact cdB1 | exact cdB2 | exact cdB3 | exact cdB4 | exact cdC1 | exact cdC2 | exact cdC3 | exact cdD1 | exact cdD2 | exact cdD3 | exact cdE1 | exact cdF1), h⟩
      · rw [if_neg ho, if_neg ho]
        have ho2 : xO (yT d j) = true := by cases hb : xO (yT d j); exact absurd hb ho; rfl
        obtain ⟨⟨h1, h2, h3⟩, h4, h5, h6, h7⟩ := hT.2 ho2
        generalize hz : yT d j = z at *
        have eA : zAt r j i = (5 * j + (xP z - 1)) * 32 + i := by unfold zAt; rw [h3]; omega
        refine ⟨(by first | exact cd0 _ | exact cdA1 | exact cdA2 | exact cdB1 | exact cdB2 | exact cdB3 | exact cdB4 | exact cdC1 | exact cdC2 | exact cdC3 | exact cdD1 | exact cdD2 | exact cdD3 | exact cdE1 | exact cdF1), ?_⟩
        refine Sim.at (l := yS d) h rfl rfl h.2.2.2.1.1 h.2.2.2.1.2 ?_ ?_
        · refine ⟨hT.1, fun _ => ⟨⟨h1, h2, h3⟩, h4, h5, ?_, fun p q hp hq => ?_⟩⟩
          · exact h6.trans (zSt_eq 32 (by omega) (fun k hk => ⟨rfl, fun _ => rfl, rfl⟩)).symm
          · have hp2 : p < xP z := hp
            obtain ⟨g1, g2⟩ := h7 p q hp2 hq
            show va_up (zH r) (zAt r j i) true ((5 * j + p) * 32 + q) = (lastW (xW (tPut z (xP z - 1) i x)) q (p + 1)).isSome ∧ ∀ q2, lastW (xW (tPut z (xP z - 1) i x)) q (p + 1) = some q2 → vp_updL (zW r) (zAt r j i) x ((5 * j + p) * 32 + q) = va_up (xV z) (xP z - 1) (vp_updL (xV z (xP z - 1)) i x) q2 q
            by_cases e : p = xP z - 1 ∧ q = i
            · obtain ⟨e1, e2⟩ := e
              subst e1; subst e2
              have eb : bt (xW (tPut z (xP z - 1) q x) (xP z - 1)) q = true := by rw [put_w hi hi]; simp
              rw [eA, va_up_self, pk_uLs, lastW_s, eb, if_pos rfl]
              refine ⟨rfl, fun q2 hq2 => ?_⟩
              cases hq2
              rw [va_up_self, pk_uLs]
            · have ne : (5 * j + p) * 32 + q ≠ zAt r j i := by rw [eA]; omega
              have el : lastW (xW (tPut z (xP z - 1) i x)) q (p + 1) = lastW (xW z) q (p + 1) := put_last hi hq (p + 1) (by omega)
              rw [va_up_ne _ _ ne, pk_uLn ne, el]
              refine ⟨g1, fun q2 hq2 => ?_⟩
              rw [g2 q2 hq2]
              by_cases e3 : q2 = xP z - 1
              · subst e3
                rw [va_up_self]
                have hl := lastW_lt hq2
                rw [pk_uLn (by omega)]
              · rw [va_up_ne _ _ e3]
        · intro t2 ht2 hne
          refine ⟨rfl, rfl, fun k _ => rfl, fun k _ => rfl, fun q q1 q2 => ?_, fun q q1 q2 => ?_⟩
          · exact va_up_ne _ _ (by rw [eA]; omega)
          · exact pk_uLn (by rw [eA]; omega)
theorem sim_save {b : Nat → Nat} {d : xDS} {r : xRS} (h : Sim b d r) (t : Int32) : zE (zSave r t).2 = cdOf [qA, qS, qU] (ySave d t).1.1 ∧ Sim b (ySave d t).2 (zSave r t).2 ∧ ((ySave d t).1.1 = none → (ySave d t).1.2 = (zSave r t).1) := by
  unfold zSave ySave
  cases hx : ix 8 t with
  | none => exact ⟨(by first | exact cd0 _ | exact cdA1 | exact cdA2 | exact cdB1 | exact cdB2 | exact cdB3 | exact cdB4 | exact cdC1 | exact cdC2 | exact cdC3 | exact cdD1 | exact cdD2 | exact cdD3 | exact cdE1 | exact cdF1), h, fun q => by cases q⟩
  | some j =>
    obtain ⟨hj, -⟩ := ix_some (by decide) hx
    have hT := h.2.2.2.2 j hj
    dsimp only
    rw [← hT.1]
    by_cases ho : xO (yT d j) = false
    · rw [if_pos ho, if_pos ho]
      exact ⟨(by first | exact cd0 _ | exact cdA1 | exact cdA2 | exact cdB1 | exact cdB2 | exact cdB3 | exact cdB4 | exact cdC1 | exact cdC2 | exact cdC3 | exact cdD1 | exact cdD2 | exact cdD3 | exact cdE1 | exact cdF1), h, fun q => by cases q⟩
    · rw [if_neg ho, if_neg ho]
      have ho2 : xO (yT d j) = true := by cases hb : xO (yT d j); exact absurd hb ho; rfl
      have hO := hT.2 ho2
      obtain ⟨⟨h1, h2, h3⟩, h4, h5, h6, h7⟩ := hO
      generalize hz : yT d j = z at *
      rw [h3]
      by_cases h8 : 5 ≤ xP z
      · rw [if_pos h8, if_pos (by omega)]
        exact ⟨(by first | exact cd0 _ | exact cdA1 | exact cdA2 | exact cdB1 | exact cdB2 | exact cdB3 | exact cdB4 | exact cdC1 | exact cdC2 | exact cdC3 | exact cdD1 | exact cdD2 | exact cdD3 | exact cdE1 | exact cdF1), h, fun q => by cases q⟩
      · rw [if_neg h8, if_neg (by omega)]
        have eA : zAt r j 0 = (5 * j + (xP z - 1)) * 32 := by unfold zAt; rw [h3]; omega
        refine ⟨(by first | exact cd0 _ | exact cdA1 | exact cdA2 | exact cdB1 | exact cdB2 | exact cdB3 | exact cdB4 | exact cdC1 | exact cdC2 | exact cdC3 | exact cdD1 | exact cdD2 | exact cdD3 | exact cdE1 | exact cdF1), ?_, fun _ => rfl⟩
        refine Sim.at (l := yS d) h rfl rfl h.2.2.2.1.1 h.2.2.2.1.2 ?_ ?_
        · refine ⟨hT.1, fun _ => ⟨⟨by show 1 ≤ xP z + 1; omega, by show xP z + 1 ≤ 5; omega, by show va_up (zP r) j (xP z + 1) j = xP z + 1; rw [va_up_self]⟩, h4, h5, ?_, fun p k hp hk => ?_⟩⟩
          · exact h6.trans (zSt_eq 32 (by omega) (fun k hk => ⟨rfl, fun _ => rfl, rfl⟩)).symm
          · have hp2 : p < xP z + 1 := hp
            show zCpB (zH r) (zAt r j 0) (zAt r j 0 + 32) 32 ((5 * j + p) * 32 + k) = (lastW (upd (xW z) (xP z) 0) k (p + 1)).isSome ∧ ∀ q, lastW (upd (xW z) (xP z) 0) k (p + 1) = some q → zCpL (zW r) (zAt r j 0) (zAt r j 0 + 32) 32 ((5 * j + p) * 32 + k) = xV z q k
            have el : ∀ n, n ≤ xP z → lastW (upd (xW z) (xP z) 0) k n = lastW (xW z) k n := fun n hn => lastW_eq n (fun q hq => by rw [pk_un (by omega)])
            rw [zCpB_at 32 _ (by omega), zCpL_at 32 _ (by omega)]
            by_cases e : p = xP z
            · subst e
              rw [if_pos (by rw [eA]; omega), if_pos (by rw [eA]; omega), lastW_s, pk_us, b_0, if_neg (by decide), el _ (Nat.le_refl _)]
              have h9 := h7 (xP z - 1) k (by omega) hk
              rw [Nat.sub_add_cancel h1] at h9
              have e9 : zAt r j 0 + ((5 * j + xP z) * 32 + k - (zAt r j 0 + 32)) = (5 * j + (xP z - 1)) * 32 + k := by rw [eA]; omega
              rw [e9]
              exact h9
            · rw [if_neg (by rw [eA]; omega), if_neg (by rw [eA]; omega), el _ (by omega)]
              exact h7 p k (by omega) hk
        · intro t2 ht2 hne
          refine ⟨rfl, va_up_ne _ _ hne, fun k _ => rfl, fun k _ => rfl, fun q q1 q2 => ?_, fun q q1 q2 => ?_⟩
          · show zCpB (zH r) (zAt r j 0) (zAt r j 0 + 32) 32 q = _
            rw [zCpB_at 32 _ (by omega), if_neg (by rw [eA]; omega)]
          · show zCpL (zW r) (zAt r j 0) (zAt r j 0 + 32) 32 q = _
            rw [zCpL_at 32 _ (by omega), if_neg (by rw [eA]; omega)]
theorem sim_back {b : Nat → Nat} {d : xDS} {r : xRS} (h : Sim b d r) (t : Int32) : zE (zBack r t) = cdOf [qA, qS, qU] (yBack d t).1 ∧ Sim b (yBack d t).2 (zBack r t) := by
  unfold zBack yBack
  cases hx : ix 8 t with
  | none => exact ⟨(by first | exact cd0 _ | exact cdA1 | exact cdA2 | exact cdB1 | exact cdB2 | exact cdB3 | exact cdB4 | exact cdC1 | exact cdC2 | exact cdC3 | exact cdD1 | exact cdD2 | exact cdD3 | exact cdE1 | exact cdF1), h⟩
  | some j =>
    obtain ⟨hj, -⟩ := ix_some (by decide) hx
    have hT := h.2.2.2.2 j hj
    dsimp only
    rw [← hT.1]
    by_cases ho : xO (yT d j) = false
    · rw [if_pos ho, if_pos ho]
      exact ⟨(by first | exact cd0 _ | exact cdA1 | exact cdA2 | exact cdB1 | exact cdB2 | exact cdB3 | exact cdB4 | exact cdC1 | exact cdC2 | exact cdC3 | exact cdD1 | exact cdD2 | exact cdD3 | exact cdE1 | exact cdF1), h⟩
    · rw [if_neg ho, if_neg ho]
      have ho2 : xO (yT d j) = true := by cases hb : xO (yT d j); exact absurd hb ho; rfl
      obtain ⟨⟨h1, h2, h3⟩, h4, h5, h6, h7⟩ := hT.2 ho2
      generalize hz : yT d j = z at *
      rw [h3]
      by_cases h8 : xP z ≤ 1
      · rw [if_pos h8, if_pos (by omega)]
        exact ⟨(by first | exact cd0 _ | exact cdA1 | exact cdA2 | exact cdB1 | exact cdB2 | exact cdB3 | exact cdB4 | exact cdC1 | exact cdC2 | exact cdC3 | exact cdD1 | exact cdD2 | exact cdD3 | exact cdE1 | exact cdF1), h⟩
      · rw [if_neg h8, if_neg (by omega)]
        refine ⟨(by first | exact cd0 _ | exact cdA1 | exact cdA2 | exact cdB1 | exact cdB2 | exact cdB3 | exact cdB4 | exact cdC1 | exact cdC2 | exact cdC3 | exact cdD1 | exact cdD2 | exact cdD3 | exact cdE1 | exact cdF1), ?_⟩
        refine Sim.at (l := yS d) h rfl rfl h.2.2.2.1.1 h.2.2.2.1.2 ?_ ?_
        · refine ⟨hT.1, fun _ => ⟨⟨by show 1 ≤ xP z - 1; omega, by show xP z - 1 ≤ 5; omega, by show va_up (zP r) j (xP z - 1) j = xP z - 1; rw [va_up_self]⟩, h4, h5, ?_, fun p k hp hk => ?_⟩⟩
          · exact h6.trans (zSt_eq 32 (by omega) (fun k hk => ⟨rfl, fun _ => rfl, rfl⟩)).symm
          · exact h7 p k (Nat.lt_of_lt_of_le hp (Nat.sub_le _ _)) hk
        · intro t2 ht2 hne
          exact ⟨rfl, va_up_ne _ _ hne, fun k _ => rfl, fun k _ => rfl, fun i _ _ => rfl, fun i _ _ => rfl⟩
theorem mrg_fix {z : xTS} {p : Nat} : ∀ n, xO (tMrg z p n) = xO z ∧ xS (tMrg z p n) = xS z ∧ xR (tMrg z p n) = xR z ∧ xP (tMrg z p n) = xP z
  | 0 => ⟨rfl, rfl, rfl, rfl⟩
  | n + 1 => by
    obtain ⟨h1, h2, h3, h4⟩ := mrg_fix (z := z) (p := p) n
    unfold tMrg
    by_cases hb : bt (xW (tMrg z p n) (p + 1)) n = true
    · rw [if_pos hb]; exact ⟨h1, h2, h3, h4⟩
    · rw [if_neg hb]; exact ⟨h1, h2, h3, h4⟩
theorem mrg_at {z : xTS} {p : Nat} : ∀ n, n ≤ 32 → (∀ q k, k < 32 → bt (xW (tMrg z p n) q) k = (bt (xW z q) k || (decide (q = p) && (decide (k < n) && bt (xW z (p + 1)) k)))) ∧ ∀ q k, xV (tMrg z p n) q k = if q = p ∧ k < n ∧ bt (xW z (p + 1)) k = true then xV z (p + 1) k else xV z q k
  | 0, _ => ⟨fun q k _ => by simp [tMrg], fun q k => by rw [if_neg (by omega)]; rfl⟩
  | n + 1, hn => by
    obtain ⟨hw, hv⟩ := mrg_at (z := z) (p := p) n (by omega)
    have hl : bt (xW (tMrg z p n) (p + 1)) n = bt (xW z (p + 1)) n := by rw [hw (p + 1) n (by omega)]; simp
    have hv1 : xV (tMrg z p n) (p + 1) n = xV z (p + 1) n := by rw [hv, if_neg (by omega)]
    unfold tMrg
    rw [hl]
    by_cases hb : bt (xW z (p + 1)) n = true
    · rw [if_pos hb, hv1]
      refine ⟨fun q k hk => ?_, fun q k => ?_⟩
      · rw [put_w (by omega) hk, hw q k hk]
        by_cases e : k = n
        · subst e
          simp [hb]
        · have e1 : decide (k < n + 1) = decide (k < n) := by rw [decide_eq_decide]; omega
          simp [e, e1]
      · show va_up (xV (tMrg z p n)) p (vp_updL (xV (tMrg z p n) p) n (xV z (p + 1) n)) q k = _
        by_cases e : q = p
        · subst e
          rw [va_up_self]
          by_cases e2 : k = n
          · subst e2
            rw [pk_uLs, if_pos ⟨rfl, by omega, hb⟩]
          · rw [pk_uLn e2, hv]
            by_cases e3 : k < n ∧ bt (xW z (q + 1)) k = true
            · rw [if_pos ⟨rfl, e3⟩, if_pos ⟨rfl, by omega, e3.2⟩]
            · rw [if_neg (fun c => e3 c.2), if_neg (fun c => e3 ⟨by omega, c.2.2⟩)]
        · rw [va_up_ne _ _ e, hv, if_neg (fun c => e c.1), if_neg (fun c => e c.1)]
    · rw [if_neg hb]
      refine ⟨fun q k hk => ?_, fun q k => ?_⟩
      · rw [hw q k hk]
        by_cases e : k = n
        · subst e
          have hb2 : bt (xW z (p + 1)) k = false := by cases hc : bt (xW z (p + 1)) k; rfl; exact absurd hc hb
          rw [hb2]; simp
        · have e1 : decide (k < n + 1) = decide (k < n) := by rw [decide_eq_decide]; omega
          rw [e1]
      · rw [hv]
        by_cases e3 : q = p ∧ k < n ∧ bt (xW z (p + 1)) k = true
        · rw [if_pos e3, if_pos ⟨e3.1, by omega, e3.2.2⟩]
        · rw [if_neg e3, if_neg (fun c => e3 ⟨c.1, by
            have : k ≠ n := fun q2 => by subst q2; exact hb c.2.2
            omega, c.2.2⟩)]
theorem sim_keep {b : Nat → Nat} {d : xDS} {r : xRS} (h : Sim b d r) (t : Int32) : zE (zKeep r t) = cdOf [qA, qS, qU] (yKeep d t).1 ∧ Sim b (yKeep d t).2 (zKeep r t) := by
  unfold zKeep yKeep
  cases hx : ix 8 t with
  | none => exact ⟨(by first | exact cd0 _ | exact cdA1 | exact cdA2 | exact cdB1 | exact cdB2 | exact cdB3 | exact cdB4 | exact cdC1 | exact cdC2 | exact cdC3 | exact cdD1 | exact cdD2 | exact cdD3 | exact cdE1 | exact cdF1), h⟩
  | some j =>
    obtain ⟨hj, -⟩ := ix_some (by decide) hx
    have hT := h.2.2.2.2 j hj
    dsimp only
    rw [← hT.1]
    by_cases ho : xO (yT d j) = false
    · rw [if_pos ho, if_pos ho]
      exact ⟨(by first | exact cd0 _ | exact cdA1 | exact cdA2 | exact cdB1 | exact cdB2 | exact cdB3 | exact cdB4 | exact cdC1 | exact cdC2 | exact cdC3 | exact cdD1 | exact cdD2 | exact cdD3 | exact cdE1 | exact cdF1), h⟩
    · rw [if_neg ho, if_neg ho]
      have ho2 : xO (yT d j) = true := by cases hb : xO (yT d j); exact absurd hb ho; rfl
      obtain ⟨⟨h1, h2, h3⟩, h4, h5, h6, h7⟩ := hT.2 ho2
      generalize hz : yT d j = z at *
      rw [h3]
      by_cases h8 : xP z ≤ 1
      · rw [if_pos h8, if_pos (by omega)]
        exact ⟨(by first | exact cd0 _ | exact cdA1 | exact cdA2 | exact cdB1 | exact cdB2 | exact cdB3 | exact cdB4 | exact cdC1 | exact cdC2 | exact cdC3 | exact cdD1 | exact cdD2 | exact cdD3 | exact cdE1 | exact cdF1), h⟩
      · rw [if_neg h8, if_neg (by omega)]
        obtain ⟨m1, m2, m3, m4⟩ := mrg_fix (z := z) (p := xP z - 2) 32
        obtain ⟨mw, mv⟩ := mrg_at (z := z) (p := xP z - 2) 32 (Nat.le_refl _)
        have ep : xP z - 2 + 1 = xP z - 1 := by omega
        rw [ep] at mw mv
        have eA : zAt r j 0 = (5 * j + (xP z - 1)) * 32 := by unfold zAt; rw [h3]; omega
        generalize hm : tMrg z (xP z - 2) 32 = zm at *
        refine ⟨(by first | exact cd0 _ | exact cdA1 | exact cdA2 | exact cdB1 | exact cdB2 | exact cdB3 | exact cdB4 | exact cdC1 | exact cdC2 | exact cdC3 | exact cdD1 | exact cdD2 | exact cdD3 | exact cdE1 | exact cdF1), ?_⟩
        refine Sim.at (l := yS d) h rfl rfl h.2.2.2.1.1 h.2.2.2.1.2 ?_ ?_
        · refine ⟨m1.trans hT.1, fun _ => ⟨⟨by show 1 ≤ xP zm - 1; omega, by show xP zm - 1 ≤ 5; omega, by show va_up (zP r) j (xP z - 1) j = xP zm - 1; rw [va_up_self, m4]⟩, fun k hk => ?_, h5, ?_, fun p k hp hk => ?_⟩⟩
          · show bt (xR zm) k = _
            rw [m3]; exact h4 k hk
          · show xS zm = _
            rw [m2]
            exact h6.trans (zSt_eq 32 (by omega) (fun k hk => ⟨rfl, fun _ => rfl, rfl⟩)).symm
          · have hp2 : p < xP z - 1 := by
              have : p < xP zm - 1 := hp
              omega
            show zCpB (zH r) (zAt r j 0) (zAt r j 0 - 32) 32 ((5 * j + p) * 32 + k) = (lastW (xW zm) k (p + 1)).isSome ∧ ∀ q, lastW (xW zm) k (p + 1) = some q → zCpL (zW r) (zAt r j 0) (zAt r j 0 - 32) 32 ((5 * j + p) * 32 + k) = xV zm q k
            have el : ∀ n, n ≤ xP z - 2 → lastW (xW zm) k n = lastW (xW z) k n := fun n hn => lastW_eq n (fun q hq => by rw [mw q k hk]; simp [show q ≠ xP z - 2 by omega])
            rw [zCpB_at 32 _ (by rw [eA]; omega), zCpL_at 32 _ (by rw [eA]; omega)]
            by_cases e : p = xP z - 2
            · subst e
              have e9 : zAt r j 0 + ((5 * j + (xP z - 2)) * 32 + k - (zAt r j 0 - 32)) = (5 * j + (xP z - 1)) * 32 + k := by rw [eA]; omega
              rw [if_pos (by rw [eA]; omega), if_pos (by rw [eA]; omega), e9, lastW_s, mw _ k hk, el _ (Nat.le_refl _)]
              have h9 := h7 (xP z - 1) k (by omega) hk
              rw [lastW_s] at h9
              have e10 : lastW (xW z) k (xP z - 1) = if bt (xW z (xP z - 2)) k = true then some (xP z - 2) else lastW (xW z) k (xP z - 2) := by
                have := lastW_s (w := xW z) (k := k) (n := xP z - 2)
                rw [ep] at this
                exact this
              rw [e10] at h9
              cases hb1 : bt (xW z (xP z - 1)) k
              · rw [hb1, if_neg (by decide)] at h9
                cases hb2 : bt (xW z (xP z - 2)) k
                · rw [hb2, if_neg (by decide)] at h9
                  simp only [hb1, hb2]
                  rw [if_neg (by simp)]
                  refine ⟨h9.1, fun q hq => ?_⟩
                  have hlt := lastW_lt hq
                  rw [h9.2 q hq, mv, if_neg (by omega)]
                · rw [hb2, if_pos rfl] at h9
                  simp only [hb1, hb2]
                  rw [if_pos (by simp)]
                  refine ⟨h9.1, fun q hq => ?_⟩
                  cases hq
                  rw [h9.2 _ rfl, mv, if_neg (by rw [hb1]; simp)]
              · rw [hb1, if_pos rfl] at h9
                simp only [hb1]
                rw [if_pos (by simp [hk])]
                refine ⟨h9.1, fun q hq => ?_⟩
                cases hq
                rw [h9.2 _ rfl, mv, if_pos ⟨rfl, hk, hb1⟩]
            · rw [if_neg (by rw [eA]; omega), if_neg (by rw [eA]; omega), el _ (by omega)]
              obtain ⟨g1, g2⟩ := h7 p k (by omega) hk
              refine ⟨g1, fun q hq => ?_⟩
              have hlt := lastW_lt hq
              rw [g2 q hq, mv, if_neg (by omega)]
        · intro t2 ht2 hne
          refine ⟨rfl, va_up_ne _ _ hne, fun k _ => rfl, fun k _ => rfl, fun q q1 q2 => ?_, fun q q1 q2 => ?_⟩
          · show zCpB (zH r) (zAt r j 0) (zAt r j 0 - 32) 32 q = _
            rw [zCpB_at 32 _ (by rw [eA]; omega), if_neg (by rw [eA]; omega)]
          · show zCpL (zW r) (zAt r j 0) (zAt r j 0 - 32) 32 q = _
            rw [zCpL_at 32 _ (by rw [eA]; omega), if_neg (by rw [eA]; omega)]
theorem zSt_read {r : xRS} {t i : Nat} {S : Nat → Int32} {B : Nat → Bool} {r2 : xRS} (hR : zR r2 = va_up (zR r) (32 * t + i) true) (hG : zG r2 = zG r) (hS : zS r2 = if zR r (32 * t + i) = true then zS r else upd (zS r) (32 * t + i) (zG r i)) : ∀ n, zSt r2 t n = zSt r t n
  | 0 => rfl
  | n + 1 => by
    show (zSt r2 t n || (zR r2 (32 * t + n) && decide (zS r2 (32 * t + n) ≠ zG r2 n))) = (zSt r t n || (zR r (32 * t + n) && decide (zS r (32 * t + n) ≠ zG r n)))
    rw [zSt_read (S := S) (B := B) hR hG hS n, hR, hG, hS]
    by_cases e : n = i
    · subst e
      rw [va_up_self]
      cases hb : zR r (32 * t + n)
      · rw [if_neg (by decide), pk_us]; simp
      · rw [if_pos rfl]
    · rw [va_up_ne _ _ (by omega)]
      by_cases hb : zR r (32 * t + i) = true
      · rw [if_pos hb]
      · rw [if_neg hb, pk_un (by omega)]
theorem sim_read {b : Nat → Nat} {d : xDS} {r : xRS} (h : Sim b d r) (hb : ∀ k, k < 32 → b k < 2 ^ 31) (t k : Int32) : zE (zRead r t k).2 = cdOf [qA, qB, qS, qU] (yRead d t k).1.1 ∧ Sim b (yRead d t k).2 (zRead r t k).2 ∧ ((yRead d t k).1.1 = none → (yRead d t k).1.2 = (zRead r t k).1) := by
  unfold zRead yRead
  cases hx : ix 8 t with
  | none => exact ⟨(by first | exact cd0 _ | exact cdA1 | exact cdA2 | exact cdB1 | exact cdB2 | exact cdB3 | exact cdB4 | exact cdC1 | exact cdC2 | exact cdC3 | exact cdD1 | exact cdD2 | exact cdD3 | exact cdE1 | exact cdF1), h, fun q => by cases q⟩
  | some j =>
    obtain ⟨hj, -⟩ := ix_some (by decide) hx
    cases hy : ix 32 k with
    | none => exact ⟨(by first | exact cd0 _ | exact cdA1 | exact cdA2 | exact cdB1 | exact cdB2 | exact cdB3 | exact cdB4 | exact cdC1 | exact cdC2 | exact cdC3 | exact cdD1 | exact cdD2 | exact cdD3 | exact cdE1 | exact cdF1), h, fun q => by cases q⟩
    | some i =>
      obtain ⟨hi, -⟩ := ix_some (by decide) hy
      have hT := h.2.2.2.2 j hj
      dsimp only
      rw [← hT.1]
      by_cases ho : xO (yT d j) = false
      · rw [if_pos ho, if_pos ho]
        exact ⟨(by first | exact cd0 _ | exact cdA1 | exact cdA2 | exact cdB1 | exact cdB2 | exact cdB3 | exact cdB4 | exact cdC1 | exact cdC2 | exact cdC3 | exact cdD1 | exact cdD2 | exact cdD3 | exact cdE1 | exact cdF1), h, fun q => by cases q⟩
      · rw [if_neg ho, if_neg ho]
        have ho2 : xO (yT d j) = true := by cases hc : xO (yT d j); exact absurd hc ho; rfl
        have hO := hT.2 ho2
        obtain ⟨l1, l2⟩ := hO.lst hi
        obtain ⟨⟨h1, h2, h3⟩, h4, h5, h6, h7⟩ := hO
        generalize hz : yT d j = z at *
        rw [l1]
        cases hl : lastW (xW z) i (xP z) with
        | some q =>
          rw [if_pos (show (some q).isSome = true from rfl)]
          exact ⟨(by first | exact cd0 _ | exact cdA1 | exact cdA2 | exact cdB1 | exact cdB2 | exact cdB3 | exact cdB4 | exact cdC1 | exact cdC2 | exact cdC3 | exact cdD1 | exact cdD2 | exact cdD3 | exact cdE1 | exact cdF1), h, fun _ => (l2 q hl).symm⟩
        | none =>
          rw [if_neg (by decide), ← h6]
          dsimp only
          by_cases hs : xS z = true
          · rw [if_pos hs, if_pos hs]
            refine ⟨(by first | exact cd0 _ | exact cdA1 | exact cdA2 | exact cdB1 | exact cdB2 | exact cdB3 | exact cdB4 | exact cdC1 | exact cdC2 | exact cdC3 | exact cdD1 | exact cdD2 | exact cdD3 | exact cdE1 | exact cdF1), ?_, fun q => by cases q⟩
            unfold yEnd
            rw [hz]
            refine Sim.at (l := yS d + 1) h rfl rfl h.2.2.2.1.1 (by rw [h.2.2.2.1.2]) (simT_cl (by show va_up (zO r) j false j = false; rw [va_up_self])) ?_
            intro t2 ht2 hne
            exact ⟨va_up_ne _ _ hne, rfl, fun k _ => rfl, fun k _ => rfl, fun i _ _ => rfl, fun i _ _ => rfl⟩
          · rw [if_neg hs, if_neg hs]
            refine ⟨(by first | exact cd0 _ | exact cdA1 | exact cdA2 | exact cdB1 | exact cdB2 | exact cdB3 | exact cdB4 | exact cdC1 | exact cdC2 | exact cdC3 | exact cdD1 | exact cdD2 | exact cdD3 | exact cdE1 | exact cdF1), ?_, fun _ => h.1 i hi⟩
            refine Sim.at (l := yS d) h rfl rfl h.2.2.2.1.1 h.2.2.2.1.2 ?_ ?_
            · refine ⟨hT.1, fun _ => ⟨⟨h1, h2, h3⟩, fun q hq => ?_, fun q hq hr => ?_, ?_, h7⟩⟩
              · show bt (xR z ||| sB i) q = va_up (zR r) (32 * j + i) true (32 * j + q)
                rw [or_bt hi hq, h4 q hq]
                by_cases e : q = i
                · subst e; rw [va_up_self]; simp
                · rw [va_up_ne _ _ (by omega)]; simp [e]
              · show ∃ a c : Nat, a ≤ c ∧ c < 2 ^ 31 ∧ (if zR r (32 * j + i) = true then zS r else upd (zS r) (32 * j + i) (zG r i)) (32 * j + q) = nI a ∧ zG r q = nI c
                by_cases e : zR r (32 * j + q) = true
                · obtain ⟨a, c, q1, q2, q3, q4⟩ := h5 q hq e
                  refine ⟨a, c, q1, q2, ?_, q4⟩
                  by_cases e2 : zR r (32 * j + i) = true
                  · rw [if_pos e2]; exact q3
                  · rw [if_neg e2, pk_un (fun w => e2 (by rw [← w]; exact e))]; exact q3
                · have hr2 : va_up (zR r) (32 * j + i) true (32 * j + q) = true := hr
                  have e3 : q = i := by
                    by_cases e4 : q = i
                    · exact e4
                    · rw [va_up_ne _ _ (by omega)] at hr2; exact absurd hr2 e
                  subst e3
                  obtain ⟨c, q1, q2⟩ := h.2.2.1 q hq
                  have := hb q hq
                  exact ⟨c, c, Nat.le_refl _, by omega, by rw [if_neg e, pk_us]; exact q2, q2⟩
              · show xS z = _
                rw [h6]
                exact (zSt_read (r := r) (t := j) (i := i) (S := zS r) (B := zR r) (r2 := (0, zC r, zW r, zG r, zP r, if zR r (32 * j + i) = true then zS r else upd (zS r) (32 * j + i) (zG r i), zH r, va_up (zR r) (32 * j + i) true, zO r, zD r, zL r)) rfl rfl rfl 32).symm
            · intro t2 ht2 hne
              refine ⟨rfl, rfl, fun q hq => ?_, fun q hq => ?_, fun i _ _ => rfl, fun i _ _ => rfl⟩
              · exact va_up_ne _ _ (by omega)
              · show (if zR r (32 * j + i) = true then zS r else upd (zS r) (32 * j + i) (zG r i)) (32 * t2 + q) = _
                by_cases e2 : zR r (32 * j + i) = true
                · rw [if_pos e2]
                · rw [if_neg e2, pk_un (by omega)]
/-- the done transaction stays as it is while its cells change -/
theorem done_t {j : Nat} {d : xDS} (hj : j < 8) (hc : xO (yT d j) = false) : ∀ k, yT (yDoneN j d k) j = yT d j
  | 0 => rfl
  | k + 1 => by
    have ih := done_t hj hc k
    unfold yDoneN
    cases hl : lastW (xW (yT (yDoneN j d k) j)) k (xP (yT (yDoneN j d k) j)) with
    | none => exact ih
    | some p =>
      show yNote (yT (yDoneN j d k)) k 8 j = _
      rw [yNote_at, if_pos hj, ih, tNote_cl hc]
theorem sim_doneN {b : Nat → Nat} {d : xDS} {r : xRS} {j : Nat} {z : xTS} (hj : j < 8) (hz : yT d j = tClose z) (hb : ∀ k, k < 32 → b k + 1 < 2 ^ 31) (hL : ∀ k, k < 32 → zH r (zAt r j k) = (lastW (xW z) k (xP z)).isSome ∧ ∀ q, lastW (xW z) k (xP z) = some q → zW r (zAt r j k) = xV z q k) (h : Sim b d r) :
    ∀ n, n ≤ 32 → Sim (fun i => if i < n then b i + 1 else b i) (yDoneN j d n) (zE r, (zDoneN r j n).1, zW r, (zDoneN r j n).2, r.2.2.2.2)
  | 0, _ => Sim.wide h (fun k _ => by rw [if_neg (by omega)]; exact Nat.le_refl _)
  | n + 1, hn => by
    have ih := sim_doneN hj hz hb hL h n (by omega)
    obtain ⟨l1, l2⟩ := hL n (by omega)
    have ht := done_t (d := d) hj (by rw [hz]; rfl) n
    have ew : lastW (xW (yT (yDoneN j d n) j)) n (xP (yT (yDoneN j d n) j)) = lastW (xW z) n (xP z) := by rw [ht, hz]; rfl
    have wd : ∀ k, k < 32 → (fun i => if i < n then b i + 1 else b i) k ≤ (fun i => if i < n + 1 then b i + 1 else b i) k := fun k _ => by
      by_cases e : k < n
      · simp [e, show k < n + 1 by omega]
      · by_cases e2 : k < n + 1
        · simp [e, e2]
        · simp [e, e2]
    unfold yDoneN zDoneN
    rw [ew, l1]
    cases hl : lastW (xW z) n (xP z) with
    | none =>
      rw [if_neg (by decide)]
      exact Sim.wide ih wd
    | some p =>
      rw [if_pos (show (some p).isSome = true from rfl)]
      have hv : xV (yT (yDoneN j d n) j) p n = zW r (zAt r j n) := by rw [ht, hz]; exact (l2 p hl).symm
      dsimp only
      rw [hv]
      have hcg := Sim.change (x := zW r (zAt r j n)) ih (k := n) (by omega) (by rw [if_neg (by omega)]; exact hb n (by omega))
      refine Sim.wide (b := va_up (fun i => if i < n then b i + 1 else b i) n ((if n < n then b n + 1 else b n) + 1)) hcg (fun k hk => ?_)
      by_cases e : k = n
      · subst e
        rw [va_up_self, if_neg (by omega), if_pos (by omega)]
        exact Nat.le_refl _
      · rw [va_up_ne _ _ e]
        exact wd k hk
theorem sim_done {b : Nat → Nat} {d : xDS} {r : xRS} (h : Sim b d r) (hb : ∀ k, k < 32 → b k + 1 < 2 ^ 31) (t : Int32) : zE (zDone r t).2 = cdOf [qA, qS] (yDone d t).1.1 ∧ Sim (fun i => b i + 1) (yDone d t).2 (zDone r t).2 ∧ ((yDone d t).1.1 = none → (yDone d t).1.2 = (zDone r t).1) := by
  have hw : ∀ {d2 : xDS} {r2 : xRS}, Sim b d2 r2 → Sim (fun i => b i + 1) d2 r2 := fun q => Sim.wide q (fun i _ => Nat.le_succ _)
  unfold zDone yDone
  cases hx : ix 8 t with
  | none => exact ⟨(by first | exact cd0 _ | exact cdA1 | exact cdA2 | exact cdB1 | exact cdB2 | exact cdB3 | exact cdB4 | exact cdC1 | exact cdC2 | exact cdC3 | exact cdD1 | exact cdD2 | exact cdD3 | exact cdE1 | exact cdF1), hw h, fun q => by cases q⟩
  | some j =>
    obtain ⟨hj, -⟩ := ix_some (by decide) hx
    have hT := h.2.2.2.2 j hj
    dsimp only
    rw [← hT.1]
    by_cases ho : xO (yT d j) = false
    · rw [if_pos ho, if_pos ho]
      exact ⟨(by first | exact cd0 _ | exact cdA1 | exact cdA2 | exact cdB1 | exact cdB2 | exact cdB3 | exact cdB4 | exact cdC1 | exact cdC2 | exact cdC3 | exact cdD1 | exact cdD2 | exact cdD3 | exact cdE1 | exact cdF1), hw h, fun q => by cases q⟩
    · rw [if_neg ho, if_neg ho]
      have ho2 : xO (yT d j) = true := by cases hc : xO (yT d j); exact absurd hc ho; rfl
      have hO := hT.2 ho2
      have hlst := fun k (hk : k < 32) => hO.lst hk
      obtain ⟨⟨h1, h2, h3⟩, h4, h5, h6, h7⟩ := hO
      rw [← h6]
      have hcl : zO (zE r, zC r, zW r, zG r, zP r, zS r, zH r, zR r, va_up (zO r) j false, zD r, zL r) j = false := va_up_self _ _ _
      by_cases hs : xS (yT d j) = true
      · rw [if_pos hs, if_pos hs]
        refine ⟨(by first | exact cd0 _ | exact cdA1 | exact cdA2 | exact cdB1 | exact cdB2 | exact cdB3 | exact cdB4 | exact cdC1 | exact cdC2 | exact cdC3 | exact cdD1 | exact cdD2 | exact cdD3 | exact cdE1 | exact cdF1), hw ?_, fun _ => rfl⟩
        unfold yEnd
        refine Sim.at (l := yS d + 1) h rfl rfl h.2.2.2.1.1 (by rw [h.2.2.2.1.2]) (simT_cl hcl) ?_
        intro t2 ht2 hne
        exact ⟨va_up_ne _ _ hne, rfl, fun k _ => rfl, fun k _ => rfl, fun i _ _ => rfl, fun i _ _ => rfl⟩
      · rw [if_neg hs, if_neg hs]
        refine ⟨(by first | exact cd0 _ | exact cdA1 | exact cdA2 | exact cdB1 | exact cdB2 | exact cdB3 | exact cdB4 | exact cdC1 | exact cdC2 | exact cdC3 | exact cdD1 | exact cdD2 | exact cdD3 | exact cdE1 | exact cdF1), ?_, fun _ => rfl⟩
        have hS : Sim b (ySet d j (tClose (yT d j))) (zE r, zC r, zW r, zG r, zP r, zS r, zH r, zR r, va_up (zO r) j false, zD r, zL r) := by
          refine Sim.at (l := yS d) h rfl rfl h.2.2.2.1.1 h.2.2.2.1.2 (simT_cl hcl) ?_
          intro t2 ht2 hne
          exact ⟨va_up_ne _ _ hne, rfl, fun k _ => rfl, fun k _ => rfl, fun i _ _ => rfl, fun i _ _ => rfl⟩
        have hD := sim_doneN (r := (zE r, zC r, zW r, zG r, zP r, zS r, zH r, zR r, va_up (zO r) j false, zD r, zL r)) (d := ySet d j (tClose (yT d j))) (j := j) (z := yT d j) hj (by show va_up (yT d) j (tClose (yT d j)) j = _; rw [va_up_self]) hb hlst hS 32 (Nat.le_refl _)
        obtain ⟨g1, g2, g3, g4, g5⟩ := Sim.wide (b2 := fun i => b i + 1) hD (fun k hk => by simp only [hk, if_true]; exact Nat.le_refl _)
        have ez : ∀ n, zDoneN (zE r, zC r, zW r, zG r, zP r, zS r, zH r, zR r, va_up (zO r) j false, zD r, zL r) j n = zDoneN r j n := by
          intro n
          induction n with
          | zero => rfl
          | succ n ih => unfold zDoneN; rw [ih]; rfl
        rw [ez] at g1 g2 g3 g5
        have g6 : yD (yDoneN j (ySet d j (tClose (yT d j))) 32) = zD r ∧ yS (yDoneN j (ySet d j (tClose (yT d j))) 32) = zL r := g4
        clear g4 hD ez
        generalize yDoneN j (ySet d j (tClose (yT d j))) 32 = D at *
        generalize zDoneN r j 32 = Z at *
        refine ⟨g1, g2, g3, ⟨?_, g6.2⟩, fun t2 ht2 => ⟨(g5 t2 ht2).1, fun ho2 => SimO.same ((g5 t2 ht2).2 ho2) rfl (fun _ _ => rfl) (fun _ _ => rfl) (fun _ _ => rfl) (fun _ _ _ => rfl) (fun _ _ _ => rfl)⟩⟩
        show yD D + 1 = zD r + 1
        rw [g6.1]
/-- the two new objects -/
def tNew : xTS := (false, false, 0, 1, fun _ => 0, fun _ _ => 0)
def yNew : xDS := (fun _ => 0, fun _ => 0, fun _ => tNew, 0, 0)
def zNew : xRS := (0, fun _ => 0, fun _ => 0, fun _ => 0, fun _ => 0, fun _ => 0, fun _ => false, fun _ => false, fun _ => false, 0, 0)
theorem sim_new : Sim (fun _ => 0) yNew zNew := ⟨fun _ _ => rfl, fun _ _ => rfl, fun _ _ => ⟨0, Nat.le_refl _, nI_0.symm⟩, ⟨rfl, rfl⟩, fun _ _ => ⟨rfl, fun q => by cases q⟩⟩
end
section
/-! Integer.bitCount's sum of bits, over numbers. -/
theorem bc_and {h m a c : Nat} (ha : a < 256) (hc : c < 256) : (256 * h + a) &&& (256 * m + c) = 256 * (h &&& m) + (a &&& c) := by
  have hac : a &&& c < 2 ^ 8 := Nat.lt_of_le_of_lt Nat.and_le_left ha
  have e1 : ∀ i, (256 * h + a).testBit i = if i < 8 then a.testBit i else h.testBit (i - 8) := fun i => Nat.testBit_two_pow_mul_add h (i := 8) ha i
  have e2 : ∀ i, (256 * m + c).testBit i = if i < 8 then c.testBit i else m.testBit (i - 8) := fun i => Nat.testBit_two_pow_mul_add m (i := 8) hc i
  have e3 : ∀ i, (256 * (h &&& m) + (a &&& c)).testBit i = if i < 8 then (a &&& c).testBit i else (h &&& m).testBit (i - 8) := fun i => Nat.testBit_two_pow_mul_add (h &&& m) (i := 8) hac i
  apply Nat.eq_of_testBit_eq
  intro i
  rw [Nat.testBit_and, e1, e2, e3]
  by_cases hi : i < 8
  · rw [if_pos hi, if_pos hi, if_pos hi, Nat.testBit_and]
  · rw [if_neg hi, if_neg hi, if_neg hi, Nat.testBit_and]
def bc1 (n m : Nat) : Nat := n - ((n / 2) &&& m)
def bc2 (n m : Nat) : Nat := (n &&& m) + ((n / 4) &&& m)
def bc3 (n m : Nat) : Nat := (n + n / 16) &&& m
theorem bc_t1 : ∀ a, a < 256 → ∀ g, g < 2 → ((128 * g + a / 2) &&& 85) = ((a / 2) &&& 85) ∧ ((a / 2) &&& 85) ≤ a := by decide +kernel
theorem bc_t2 : ∀ a, a < 256 → ∀ g, g < 4 → ((64 * g + a / 4) &&& 51) = ((a / 4) &&& 51) := by decide +kernel
theorem bc_t3 : ∀ a, a < 256 → a % 16 ≤ 4 → a / 16 ≤ 4 → ∀ g, g < 5 → ((a + (16 * g + a / 16)) &&& 15) = ((a + a / 16) &&& 15) ∧ a + (16 * g + a / 16) < 256 := by decide +kernel
theorem bc_s1 {h a m : Nat} (ha : a < 256) (hm : h / 2 &&& m ≤ h) : bc1 (256 * h + a) (256 * m + 85) = 256 * bc1 h m + bc1 a 85 := by
  obtain ⟨t1, t2⟩ := bc_t1 a ha (h % 2) (by omega)
  have e1 : (256 * h + a) / 2 = 256 * (h / 2) + (128 * (h % 2) + a / 2) := by omega
  unfold bc1
  rw [e1, bc_and (by omega) (by decide), t1]
  generalize h / 2 &&& m = u at *
  generalize a / 2 &&& 85 = v at *
  omega
theorem bc_s2 {h a m : Nat} (ha : a < 256) : bc2 (256 * h + a) (256 * m + 51) = 256 * bc2 h m + bc2 a 51 := by
  have t1 := bc_t2 a ha (h % 4) (by omega)
  have e1 : (256 * h + a) / 4 = 256 * (h / 4) + (64 * (h % 4) + a / 4) := by omega
  unfold bc2
  rw [e1, bc_and (by omega) (by decide), bc_and (by omega) (by decide), t1]
  omega
theorem bc_s3 {h a m : Nat} (ha : a < 256) (h1 : a % 16 ≤ 4) (h2 : a / 16 ≤ 4) (h3 : h % 16 ≤ 4) : bc3 (256 * h + a) (256 * m + 15) = 256 * bc3 h m + bc3 a 15 := by
  obtain ⟨t1, t2⟩ := bc_t3 a ha h1 h2 (h % 16) (by omega)
  have e1 : (256 * h + a) + (256 * h + a) / 16 = 256 * (h + h / 16) + (a + (16 * (h % 16) + a / 16)) := by omega
  unfold bc3
  rw [e1, bc_and t2 (by decide), t1]
def bcB (a : Nat) : Nat := bc3 (bc2 (bc1 a 85) 51) 15
theorem bc_byte : ∀ a, a < 256 → bc1 a 85 < 256 ∧ bc2 (bc1 a 85) 51 < 256 ∧ bc2 (bc1 a 85) 51 % 16 ≤ 4 ∧ bc2 (bc1 a 85) 51 / 16 ≤ 4 ∧ (a / 2 &&& 85) ≤ a ∧ bcB a = (a % 2 + a / 2 % 2 + a / 4 % 2 + a / 8 % 2) + (a / 16 % 2 + a / 32 % 2 + a / 64 % 2 + a / 128 % 2) ∧ bcB a ≤ 8 := by decide +kernel
/-- four bytes, one after another -/
theorem bc_four {n : Nat} (hn : n < 2 ^ 32) : bc3 (bc2 (bc1 n 1431655765) 858993459) 252645135 = 256 * (256 * (256 * bcB (n / 16777216) + bcB (n / 65536 % 256)) + bcB (n / 256 % 256)) + bcB (n % 256) := by
  obtain ⟨a0, ha0⟩ : ∃ z, z = n % 256 := ⟨_, rfl⟩
  obtain ⟨a1, ha1⟩ : ∃ z, z = n / 256 % 256 := ⟨_, rfl⟩
  obtain ⟨a2, ha2⟩ : ∃ z, z = n / 65536 % 256 := ⟨_, rfl⟩
  obtain ⟨a3, ha3⟩ : ∃ z, z = n / 16777216 := ⟨_, rfl⟩
  rw [← ha0, ← ha1, ← ha2, ← ha3]
  have hs : n = 256 * (256 * (256 * a3 + a2) + a1) + a0 := by omega
  have b0 : a0 < 256 := by omega
  have b1 : a1 < 256 := by omega
  have b2 : a2 < 256 := by omega
  have b3 : a3 < 256 := by omega
  obtain ⟨p0, q0, r0, s0, u0, -, -⟩ := bc_byte a0 b0
  obtain ⟨p1, q1, r1, s1, u1, -, -⟩ := bc_byte a1 b1
  obtain ⟨p2, q2, r2, s2, u2, -, -⟩ := bc_byte a2 b2
  obtain ⟨p3, q3, r3, s3, u3, -, -⟩ := bc_byte a3 b3
  have le1 : ∀ h m : Nat, h / 2 &&& m ≤ h := fun h m => Nat.le_trans Nat.and_le_left (Nat.div_le_self _ _)
  have m1 : (1431655765 : Nat) = 256 * (256 * (256 * 85 + 85) + 85) + 85 := by decide
  have m2 : (858993459 : Nat) = 256 * (256 * (256 * 51 + 51) + 51) + 51 := by decide
  have m3 : (252645135 : Nat) = 256 * (256 * (256 * 15 + 15) + 15) + 15 := by decide
  rw [hs, m1, bc_s1 b0 (le1 _ _), bc_s1 b1 (le1 _ _), bc_s1 b2 (le1 _ _)]
  rw [m2, bc_s2 p0, bc_s2 p1, bc_s2 p2]
  rw [m3, bc_s3 q0 r0 s0 (by omega), bc_s3 q1 r1 s1 (by omega), bc_s3 q2 r2 s2 (by omega)]
  rfl
theorem bc_bt (x : Int32) (i : Nat) : (if bt x i = true then 1 else 0) = x.toBitVec.toNat / 2 ^ i % 2 := by
  have e : bt x i = x.toBitVec.toNat.testBit i := by unfold bt; exact (BitVec.testBit_toNat _).symm
  rw [e, Nat.testBit_eq_decide_div_mod_eq]
  rcases Nat.mod_two_eq_zero_or_one (x.toBitVec.toNat / 2 ^ i) with h | h <;> simp [h]
theorem bc_m8 (m : Nat) : m % 256 % 2 = m % 2 ∧ m % 256 / 2 % 2 = m / 2 % 2 ∧ m % 256 / 4 % 2 = m / 4 % 2 ∧ m % 256 / 8 % 2 = m / 8 % 2 ∧ m % 256 / 16 % 2 = m / 16 % 2 ∧ m % 256 / 32 % 2 = m / 32 % 2 ∧ m % 256 / 64 % 2 = m / 64 % 2 ∧ m % 256 / 128 % 2 = m / 128 % 2 := by
  refine ⟨?_, ?_, ?_, ?_, ?_, ?_, ?_, ?_⟩ <;> omega
theorem bc_d (n a b : Nat) : n / a / b % 2 = n / (a * b) % 2 := by rw [Nat.div_div_eq_div_mul]
theorem bc_cnt (x : Int32) : bCnt x 32 = bcB (x.toBitVec.toNat % 256) + bcB (x.toBitVec.toNat / 256 % 256) + bcB (x.toBitVec.toNat / 65536 % 256) + bcB (x.toBitVec.toNat / 16777216) := by
  have hx : x.toBitVec.toNat < 2 ^ 32 := x.toBitVec.isLt
  have e : ∀ k, bCnt x (k + 1) = bCnt x k + x.toBitVec.toNat / 2 ^ k % 2 := fun k => by rw [← bc_bt]; rfl
  rw [e 31, e 30, e 29, e 28, e 27, e 26, e 25, e 24, e 23, e 22, e 21, e 20, e 19, e 18, e 17, e 16, e 15, e 14, e 13, e 12, e 11, e 10, e 9, e 8, e 7, e 6, e 5, e 4, e 3, e 2, e 1, e 0]
  generalize x.toBitVec.toNat = n at *
  obtain ⟨-, -, -, -, -, f0, -⟩ := bc_byte (n % 256) (by omega)
  obtain ⟨-, -, -, -, -, f1, -⟩ := bc_byte (n / 256 % 256) (by omega)
  obtain ⟨-, -, -, -, -, f2, -⟩ := bc_byte (n / 65536 % 256) (by omega)
  obtain ⟨-, -, -, -, -, f3, -⟩ := bc_byte (n / 16777216) (by omega)
  rw [f0, f1, f2, f3]
  obtain ⟨m0, m1, m2, m3, m4, m5, m6, m7⟩ := bc_m8 (n)
  obtain ⟨m8, m9, m10, m11, m12, m13, m14, m15⟩ := bc_m8 (n / 256)
  obtain ⟨m16, m17, m18, m19, m20, m21, m22, m23⟩ := bc_m8 (n / 65536)
  rw [m0, m1, m2, m3, m4, m5, m6, m7, m8, m9, m10, m11, m12, m13, m14, m15, m16, m17, m18, m19, m20, m21, m22, m23]
  simp only [bc_d]
  show 0 + n / 2 ^ 0 % 2 + n / 2 % 2 + n / 4 % 2 + n / 8 % 2 + n / 16 % 2 + n / 32 % 2 + n / 64 % 2 + n / 128 % 2 + n / 256 % 2 + n / 512 % 2 + n / 1024 % 2 + n / 2048 % 2 + n / 4096 % 2 + n / 8192 % 2 + n / 16384 % 2 + n / 32768 % 2 + n / 65536 % 2 + n / 131072 % 2 + n / 262144 % 2 + n / 524288 % 2 + n / 1048576 % 2 + n / 2097152 % 2 + n / 4194304 % 2 + n / 8388608 % 2 + n / 16777216 % 2 + n / 33554432 % 2 + n / 67108864 % 2 + n / 134217728 % 2 + n / 268435456 % 2 + n / 536870912 % 2 + n / 1073741824 % 2 + n / 2147483648 % 2 = _
  have z : n / 2 ^ 0 % 2 = n % 2 := by rw [Nat.pow_zero, Nat.div_one]
  rw [z]
  simp only [Nat.reduceMul]
  clear m0 m1 m2 m3 m4 m5 m6 m7 m8 m9 m10 m11 m12 m13 m14 m15 m16 m17 m18 m19 m20 m21 m22 m23 f0 f1 f2 f3 e z hx
  generalize n % 2 = b0
  generalize n / 2 % 2 = b1
  generalize n / 4 % 2 = b2
  generalize n / 8 % 2 = b3
  generalize n / 16 % 2 = b4
  generalize n / 32 % 2 = b5
  generalize n / 64 % 2 = b6
  generalize n / 128 % 2 = b7
  generalize n / 256 % 2 = b8
  generalize n / 512 % 2 = b9
  generalize n / 1024 % 2 = b10
  generalize n / 2048 % 2 = b11
  generalize n / 4096 % 2 = b12
  generalize n / 8192 % 2 = b13
  generalize n / 16384 % 2 = b14
  generalize n / 32768 % 2 = b15
  generalize n / 65536 % 2 = b16
  generalize n / 131072 % 2 = b17
  generalize n / 262144 % 2 = b18
  generalize n / 524288 % 2 = b19
  generalize n / 1048576 % 2 = b20
  generalize n / 2097152 % 2 = b21
  generalize n / 4194304 % 2 = b22
  generalize n / 8388608 % 2 = b23
  generalize n / 16777216 % 2 = b24
  generalize n / 33554432 % 2 = b25
  generalize n / 67108864 % 2 = b26
  generalize n / 134217728 % 2 = b27
  generalize n / 268435456 % 2 = b28
  generalize n / 536870912 % 2 = b29
  generalize n / 1073741824 % 2 = b30
  generalize n / 2147483648 % 2 = b31
  omega
end
section
/-! Names, field tables, the words that every method has (BIG), laid by my own program out of the listing and of tables_1. -/
abbrev R_T : String := "CommitDesk$Transaction"
abbrev R_D : String := "CommitDesk"
abbrev R_M : String := "CommitDeskModel"
abbrev R_L : String := "CommitDeskLaw"
abbrev R_J : String := "java/lang/Integer"
def F_T : u_T := fun k => match k with
  | 0 => ("CommitDesk$Transaction", "open", "Z", false)
  | 1 => ("CommitDesk$Transaction", "stale", "Z", false)
  | 2 => ("CommitDesk$Transaction", "readCells", "I", false)
  | 3 => ("CommitDesk$Transaction", "parts", "I", false)
  | 4 => ("CommitDesk$Transaction", "writtenCells", "[I", true)
  | _ => ("CommitDesk$Transaction", "values", "[[J", true)
def tf_T : Nat → FieldType := fun k => match k with
  | 0 => .boolean
  | 1 => .boolean
  | 2 => .int
  | 3 => .int
  | 4 => (.array .int)
  | _ => (.array (.array .long))
theorem nm_T : ∀ a, a < 6 → ∀ b, b < 6 → a ≠ b → (F_T a).2.1 ≠ (F_T b).2.1 := by decide +kernel
theorem ty_T : ∀ k, k < 6 → parseFieldDescriptor (F_T k).2.2.1 = some (tf_T k) := by decide +kernel
def F_D : u_T := fun k => match k with
  | 0 => ("CommitDesk", "numbers", "[J", true)
  | 1 => ("CommitDesk", "changes", "[I", true)
  | 2 => ("CommitDesk", "transactions", "[LCommitDesk$Transaction;", true)
  | 3 => ("CommitDesk", "doneTotal", "I", false)
  | _ => ("CommitDesk", "staleTotal", "I", false)
def tf_D : Nat → FieldType := fun k => match k with
  | 0 => (.array .long)
  | 1 => (.array .int)
  | 2 => (.array (.object "CommitDesk$Transaction"))
  | 3 => .int
  | _ => .int
theorem nm_D : ∀ a, a < 5 → ∀ b, b < 5 → a ≠ b → (F_D a).2.1 ≠ (F_D b).2.1 := by decide +kernel
theorem ty_D : ∀ k, k < 5 → parseFieldDescriptor (F_D k).2.2.1 = some (tf_D k) := by decide +kernel
def F_M : u_T := fun k => match k with
  | 0 => ("CommitDeskModel", "err", "I", false)
  | 1 => ("CommitDeskModel", "cells", "[J", true)
  | 2 => ("CommitDeskModel", "wrote", "[J", true)
  | 3 => ("CommitDeskModel", "changes", "[I", true)
  | 4 => ("CommitDeskModel", "parts", "[I", true)
  | 5 => ("CommitDeskModel", "seen", "[I", true)
  | 6 => ("CommitDeskModel", "has", "[Z", true)
  | 7 => ("CommitDeskModel", "read", "[Z", true)
  | 8 => ("CommitDeskModel", "open", "[Z", true)
  | 9 => ("CommitDeskModel", "done", "I", false)
  | _ => ("CommitDeskModel", "stale", "I", false)
def tf_M : Nat → FieldType := fun k => match k with
  | 0 => .int
  | 1 => (.array .long)
  | 2 => (.array .long)
  | 3 => (.array .int)
  | 4 => (.array .int)
  | 5 => (.array .int)
  | 6 => (.array .boolean)
  | 7 => (.array .boolean)
  | 8 => (.array .boolean)
  | 9 => .int
  | _ => .int
theorem nm_M : ∀ a, a < 11 → ∀ b, b < 11 → a ≠ b → (F_M a).2.1 ≠ (F_M b).2.1 := by decide +kernel
theorem ty_M : ∀ k, k < 11 → parseFieldDescriptor (F_M k).2.2.1 = some (tf_M k) := by decide +kernel
abbrev vwC : List vw_C := [(R_T, F_T, 6), (R_D, F_D, 5), (R_M, F_M, 11)]
abbrev y_D_init : MethodName := ⟨"CommitDesk", "<init>", "()V"⟩
abbrev y_T_init : MethodName := ⟨"CommitDesk$Transaction", "<init>", "()V"⟩
abbrev y_L_begin : MethodName := ⟨"CommitDeskLaw", "begin", "(LCommitDesk;I)I"⟩
abbrev y_D_begin : MethodName := ⟨"CommitDesk", "begin", "(I)V"⟩
abbrev y_D_transactionOf : MethodName := ⟨"CommitDesk", "transactionOf", "(I)LCommitDesk$Transaction;"⟩
abbrev y_T_isOpen : MethodName := ⟨"CommitDesk$Transaction", "isOpen", "()Z"⟩
abbrev y_T_start : MethodName := ⟨"CommitDesk$Transaction", "start", "()V"⟩
abbrev y_L_read : MethodName := ⟨"CommitDeskLaw", "read", "(LCommitDesk;II[J)I"⟩
abbrev y_D_read : MethodName := ⟨"CommitDesk", "read", "(II)J"⟩
abbrev y_D_openTransactionAt : MethodName := ⟨"CommitDesk", "openTransactionAt", "(II)LCommitDesk$Transaction;"⟩
abbrev y_D_requireCell : MethodName := ⟨"CommitDesk", "requireCell", "(I)V"⟩
abbrev y_D_openTransactionOf : MethodName := ⟨"CommitDesk", "openTransactionOf", "(I)LCommitDesk$Transaction;"⟩
abbrev y_T_lastPartWith : MethodName := ⟨"CommitDesk$Transaction", "lastPartWith", "(I)I"⟩
abbrev y_T_holds : MethodName := ⟨"CommitDesk$Transaction", "holds", "(II)Z"⟩
abbrev y_T_writtenIn : MethodName := ⟨"CommitDesk$Transaction", "writtenIn", "(II)J"⟩
abbrev y_T_isStale : MethodName := ⟨"CommitDesk$Transaction", "isStale", "()Z"⟩
abbrev y_D_endStale : MethodName := ⟨"CommitDesk", "endStale", "(LCommitDesk$Transaction;)V"⟩
abbrev y_T_close : MethodName := ⟨"CommitDesk$Transaction", "close", "()V"⟩
abbrev y_T_markRead : MethodName := ⟨"CommitDesk$Transaction", "markRead", "(I)V"⟩
abbrev y_L_write : MethodName := ⟨"CommitDeskLaw", "write", "(LCommitDesk;IIJ)I"⟩
abbrev y_D_write : MethodName := ⟨"CommitDesk", "write", "(IIJ)V"⟩
abbrev y_T_putInLastPart : MethodName := ⟨"CommitDesk$Transaction", "putInLastPart", "(IJ)V"⟩
abbrev y_T_putInPart : MethodName := ⟨"CommitDesk$Transaction", "putInPart", "(IIJ)V"⟩
abbrev y_L_save : MethodName := ⟨"CommitDeskLaw", "save", "(LCommitDesk;I[J)I"⟩
abbrev y_D_save : MethodName := ⟨"CommitDesk", "save", "(I)I"⟩
abbrev y_T_partCount : MethodName := ⟨"CommitDesk$Transaction", "partCount", "()I"⟩
abbrev y_T_addPart : MethodName := ⟨"CommitDesk$Transaction", "addPart", "()V"⟩
abbrev y_L_back : MethodName := ⟨"CommitDeskLaw", "back", "(LCommitDesk;I)I"⟩
abbrev y_D_back : MethodName := ⟨"CommitDesk", "back", "(I)V"⟩
abbrev y_D_transactionWithSeveralParts : MethodName := ⟨"CommitDesk", "transactionWithSeveralParts", "(I)LCommitDesk$Transaction;"⟩
abbrev y_T_dropLastPart : MethodName := ⟨"CommitDesk$Transaction", "dropLastPart", "()V"⟩
abbrev y_L_keep : MethodName := ⟨"CommitDeskLaw", "keep", "(LCommitDesk;I)I"⟩
abbrev y_D_keep : MethodName := ⟨"CommitDesk", "keep", "(I)V"⟩
abbrev y_T_mergeLastPart : MethodName := ⟨"CommitDesk$Transaction", "mergeLastPart", "()V"⟩
abbrev y_L_done : MethodName := ⟨"CommitDeskLaw", "done", "(LCommitDesk;I[J)I"⟩
abbrev y_D_done : MethodName := ⟨"CommitDesk", "done", "(I)Z"⟩
abbrev y_D_change : MethodName := ⟨"CommitDesk", "change", "(IJ)V"⟩
abbrev y_T_noteChange : MethodName := ⟨"CommitDesk$Transaction", "noteChange", "(I)V"⟩
abbrev y_L_leave : MethodName := ⟨"CommitDeskLaw", "leave", "(LCommitDesk;I)I"⟩
abbrev y_D_leave : MethodName := ⟨"CommitDesk", "leave", "(I)V"⟩
abbrev y_L_set : MethodName := ⟨"CommitDeskLaw", "set", "(LCommitDesk;IJ)I"⟩
abbrev y_D_set : MethodName := ⟨"CommitDesk", "set", "(IJ)V"⟩
abbrev y_L_cell : MethodName := ⟨"CommitDeskLaw", "cell", "(LCommitDesk;I[J)I"⟩
abbrev y_D_cell : MethodName := ⟨"CommitDesk", "cell", "(I)J"⟩
abbrev y_L_changed : MethodName := ⟨"CommitDeskLaw", "changed", "(LCommitDesk;I[J)I"⟩
abbrev y_D_changed : MethodName := ⟨"CommitDesk", "changed", "(I)I"⟩
abbrev y_L_count : MethodName := ⟨"CommitDeskLaw", "count", "(LCommitDesk;II[J)I"⟩
abbrev y_D_count : MethodName := ⟨"CommitDesk", "count", "(II)I"⟩
abbrev y_T_readCount : MethodName := ⟨"CommitDesk$Transaction", "readCount", "()I"⟩
abbrev y_J_bitCount : MethodName := ⟨"java/lang/Integer", "bitCount", "(I)I"⟩
abbrev y_T_writtenCount : MethodName := ⟨"CommitDesk$Transaction", "writtenCount", "()I"⟩
abbrev y_L_all : MethodName := ⟨"CommitDeskLaw", "all", "(LCommitDesk;I[J)I"⟩
abbrev y_D_all : MethodName := ⟨"CommitDesk", "all", "(I)I"⟩
abbrev y_D_openTotal : MethodName := ⟨"CommitDesk", "openTotal", "()I"⟩
abbrev y_M_init : MethodName := ⟨"CommitDeskModel", "<init>", "()V"⟩
abbrev y_M_thrown : MethodName := ⟨"CommitDeskModel", "thrown", "()I"⟩
abbrev y_M_begin : MethodName := ⟨"CommitDeskModel", "begin", "(I)V"⟩
abbrev y_M_isOne : MethodName := ⟨"CommitDeskModel", "isOne", "(I)Z"⟩
abbrev y_M_in : MethodName := ⟨"CommitDeskModel", "in", "(JJJ)Z"⟩
abbrev y_M_fails : MethodName := ⟨"CommitDeskModel", "fails", "(ZI)Z"⟩
abbrev y_M_last : MethodName := ⟨"CommitDeskModel", "last", "(II)I"⟩
abbrev y_M_read : MethodName := ⟨"CommitDeskModel", "read", "(II)J"⟩
abbrev y_M_isCell : MethodName := ⟨"CommitDeskModel", "isCell", "(I)Z"⟩
abbrev y_M_isStale : MethodName := ⟨"CommitDeskModel", "isStale", "(I)Z"⟩
abbrev y_M_write : MethodName := ⟨"CommitDeskModel", "write", "(IIJ)V"⟩
abbrev y_M_save : MethodName := ⟨"CommitDeskModel", "save", "(I)I"⟩
abbrev y_M_copy : MethodName := ⟨"CommitDeskModel", "copy", "(II)V"⟩
abbrev y_M_back : MethodName := ⟨"CommitDeskModel", "back", "(I)V"⟩
abbrev y_M_keep : MethodName := ⟨"CommitDeskModel", "keep", "(I)V"⟩
abbrev y_M_done : MethodName := ⟨"CommitDeskModel", "done", "(I)Z"⟩
abbrev y_M_change : MethodName := ⟨"CommitDeskModel", "change", "(IJ)V"⟩
abbrev y_M_leave : MethodName := ⟨"CommitDeskModel", "leave", "(I)V"⟩
abbrev y_M_set : MethodName := ⟨"CommitDeskModel", "set", "(IJ)V"⟩
abbrev y_M_cell : MethodName := ⟨"CommitDeskModel", "cell", "(I)J"⟩
abbrev y_M_changed : MethodName := ⟨"CommitDeskModel", "changed", "(I)I"⟩
abbrev y_M_count : MethodName := ⟨"CommitDeskModel", "count", "(II)I"⟩
abbrev y_M_all : MethodName := ⟨"CommitDeskModel", "all", "(I)I"⟩
abbrev y_L_law : MethodName := ⟨"CommitDeskLaw", "law", "([I)Z"⟩
def BIG_0 : List Cond := [(Jvm.Cond.selects "CommitDesk" ({ cls := "CommitDesk", name := "transactionOf", desc := "(I)LCommitDesk$Transaction;" } : Jvm.MethodName) ({ cls := "CommitDesk", name := "transactionOf", desc := "(I)LCommitDesk$Transaction;" } : Jvm.MethodName)),
  (Jvm.Cond.selects "java/lang/Throwable" ({ cls := "java/lang/Throwable", name := "fillInStackTrace", desc := "(I)Ljava/lang/Throwable;" } : Jvm.MethodName) ({ cls := "java/lang/Throwable", name := "fillInStackTrace", desc := "(I)Ljava/lang/Throwable;" } : Jvm.MethodName)),
  (Jvm.Cond.selects "CommitDesk" ({ cls := "CommitDesk", name := "openTransactionAt", desc := "(II)LCommitDesk$Transaction;" } : Jvm.MethodName) ({ cls := "CommitDesk", name := "openTransactionAt", desc := "(II)LCommitDesk$Transaction;" } : Jvm.MethodName)),
  (Jvm.Cond.selects "CommitDesk" ({ cls := "CommitDesk", name := "requireCell", desc := "(I)V" } : Jvm.MethodName) ({ cls := "CommitDesk", name := "requireCell", desc := "(I)V" } : Jvm.MethodName)),
  (Jvm.Cond.selects "CommitDesk" ({ cls := "CommitDesk", name := "openTransactionOf", desc := "(I)LCommitDesk$Transaction;" } : Jvm.MethodName) ({ cls := "CommitDesk", name := "openTransactionOf", desc := "(I)LCommitDesk$Transaction;" } : Jvm.MethodName)),
  (Jvm.Cond.selects "CommitDesk" ({ cls := "CommitDesk", name := "endStale", desc := "(LCommitDesk$Transaction;)V" } : Jvm.MethodName) ({ cls := "CommitDesk", name := "endStale", desc := "(LCommitDesk$Transaction;)V" } : Jvm.MethodName)),
  (Jvm.Cond.selects "CommitDesk$Transaction" ({ cls := "CommitDesk$Transaction", name := "putInPart", desc := "(IIJ)V" } : Jvm.MethodName) ({ cls := "CommitDesk$Transaction", name := "putInPart", desc := "(IIJ)V" } : Jvm.MethodName)),
  (Jvm.Cond.selects "CommitDesk" ({ cls := "CommitDesk", name := "transactionWithSeveralParts", desc := "(I)LCommitDesk$Transaction;" } : Jvm.MethodName) ({ cls := "CommitDesk", name := "transactionWithSeveralParts", desc := "(I)LCommitDesk$Transaction;" } : Jvm.MethodName)),
  (Jvm.Cond.selects "CommitDesk" ({ cls := "CommitDesk", name := "change", desc := "(IJ)V" } : Jvm.MethodName) ({ cls := "CommitDesk", name := "change", desc := "(IJ)V" } : Jvm.MethodName)),
  (Jvm.Cond.selects "CommitDesk" ({ cls := "CommitDesk", name := "openTotal", desc := "()I" } : Jvm.MethodName) ({ cls := "CommitDesk", name := "openTotal", desc := "()I" } : Jvm.MethodName)),
  (Jvm.Cond.selects "CommitDeskModel" ({ cls := "CommitDeskModel", name := "fails", desc := "(ZI)Z" } : Jvm.MethodName) ({ cls := "CommitDeskModel", name := "fails", desc := "(ZI)Z" } : Jvm.MethodName)),
  (Jvm.Cond.selects "CommitDeskModel" ({ cls := "CommitDeskModel", name := "last", desc := "(II)I" } : Jvm.MethodName) ({ cls := "CommitDeskModel", name := "last", desc := "(II)I" } : Jvm.MethodName)),
  (Jvm.Cond.selects "CommitDeskModel" ({ cls := "CommitDeskModel", name := "isStale", desc := "(I)Z" } : Jvm.MethodName) ({ cls := "CommitDeskModel", name := "isStale", desc := "(I)Z" } : Jvm.MethodName)),
  (Jvm.Cond.selects "CommitDeskModel" ({ cls := "CommitDeskModel", name := "copy", desc := "(II)V" } : Jvm.MethodName) ({ cls := "CommitDeskModel", name := "copy", desc := "(II)V" } : Jvm.MethodName)),
  (Jvm.Cond.selects "CommitDeskModel" ({ cls := "CommitDeskModel", name := "change", desc := "(IJ)V" } : Jvm.MethodName) ({ cls := "CommitDeskModel", name := "change", desc := "(IJ)V" } : Jvm.MethodName)),
  (Jvm.Cond.initialized "CommitDeskLaw"),
  (Jvm.Cond.initialized "CommitDesk"),
  (Jvm.Cond.initialized "CommitDesk$Transaction"),
  (Jvm.Cond.initialized "CommitDeskModel"),
  (Jvm.Cond.initialized "java/lang/Throwable"),
  (Jvm.Cond.initialized "java/lang/Exception"),
  (Jvm.Cond.initialized "java/lang/RuntimeException"),
  (Jvm.Cond.initialized "java/lang/IllegalArgumentException"),
  (Jvm.Cond.initialized "java/lang/IllegalStateException"),
  (Jvm.Cond.initialized "java/lang/IndexOutOfBoundsException"),
  (Jvm.Cond.initialized "java/lang/UnsupportedOperationException"),
  (Jvm.Cond.initialized "java/lang/Integer"),
  (Jvm.Cond.classLink "CommitDeskLaw" (8 : Nat) "CommitDesk"),
  (Jvm.Cond.instantiable "CommitDesk" (5 : Nat)),
  (Jvm.Cond.methodLink "CommitDeskLaw" (64 : Nat) ({ cls := "CommitDesk", name := "<init>", desc := "()V" } : Jvm.MethodName)),
  (Jvm.Cond.instanceMethod ({ cls := "CommitDesk", name := "<init>", desc := "()V" } : Jvm.MethodName)),
  (Jvm.Cond.code ({ cls := "CommitDesk", name := "<init>", desc := "()V" } : Jvm.MethodName) prog_1_method_1_code (2 : Nat) (Option.none : Option Jvm.ClassFile.FieldType)),
  (Jvm.Cond.methodLink "CommitDesk" (1 : Nat) ({ cls := "java/lang/Object", name := "<init>", desc := "()V" } : Jvm.MethodName)),
  (Jvm.Cond.instanceMethod ({ cls := "java/lang/Object", name := "<init>", desc := "()V" } : Jvm.MethodName)),
  (Jvm.Cond.code ({ cls := "java/lang/Object", name := "<init>", desc := "()V" } : Jvm.MethodName) object_method_1_code (1 : Nat) (Option.none : Option Jvm.ClassFile.FieldType)),
  (Jvm.Cond.classLink "CommitDesk" (17 : Nat) "CommitDesk$Transaction"),
  (Jvm.Cond.instantiable "CommitDesk$Transaction" (6 : Nat)),
  (Jvm.Cond.instanceMethod ({ cls := "CommitDesk$Transaction", name := "<init>", desc := "()V" } : Jvm.MethodName)),
  (Jvm.Cond.code ({ cls := "CommitDesk$Transaction", name := "<init>", desc := "()V" } : Jvm.MethodName) prog_2_method_1_code (1 : Nat) (Option.none : Option Jvm.ClassFile.FieldType)),
  (Jvm.Cond.methodLink "CommitDesk$Transaction" (3 : Nat) ({ cls := "java/lang/Object", name := "<init>", desc := "()V" } : Jvm.MethodName))]
def BIG_1 : List Cond := [(Jvm.Cond.classLink "CommitDesk$Transaction" (29 : Nat) "[[J"),
  (Jvm.Cond.fieldLink "CommitDesk$Transaction" (9 : Nat) "CommitDesk$Transaction" "open" "Z"),
  (Jvm.Cond.fieldLink "CommitDesk$Transaction" (15 : Nat) "CommitDesk$Transaction" "stale" "Z"),
  (Jvm.Cond.fieldLink "CommitDesk$Transaction" (18 : Nat) "CommitDesk$Transaction" "readCells" "I"),
  (Jvm.Cond.fieldLink "CommitDesk$Transaction" (22 : Nat) "CommitDesk$Transaction" "parts" "I"),
  (Jvm.Cond.fieldLink "CommitDesk$Transaction" (25 : Nat) "CommitDesk$Transaction" "writtenCells" "[I"),
  (Jvm.Cond.fieldLink "CommitDesk$Transaction" (31 : Nat) "CommitDesk$Transaction" "values" "[[J"),
  (Jvm.Cond.lays "CommitDesk$Transaction" "CommitDesk$Transaction" "open" "Z"),
  (Jvm.Cond.lays "CommitDesk$Transaction" "CommitDesk$Transaction" "stale" "Z"),
  (Jvm.Cond.lays "CommitDesk$Transaction" "CommitDesk$Transaction" "readCells" "I"),
  (Jvm.Cond.lays "CommitDesk$Transaction" "CommitDesk$Transaction" "parts" "I"),
  (Jvm.Cond.laysFinal "CommitDesk$Transaction" "CommitDesk$Transaction" "writtenCells" "[I"),
  (Jvm.Cond.laysFinal "CommitDesk$Transaction" "CommitDesk$Transaction" "values" "[[J"),
  (Jvm.Cond.superclass "CommitDesk$Transaction" "java/lang/Object"),
  (Jvm.Cond.arrayClass Jvm.ClassFile.FieldType.long),
  (Jvm.Cond.arrayClass Jvm.ClassFile.FieldType.int),
  (Jvm.Cond.fieldLink "CommitDesk" (9 : Nat) "CommitDesk" "numbers" "[J"),
  (Jvm.Cond.fieldLink "CommitDesk" (13 : Nat) "CommitDesk" "changes" "[I"),
  (Jvm.Cond.fieldLink "CommitDesk" (19 : Nat) "CommitDesk" "transactions" "[LCommitDesk$Transaction;"),
  (Jvm.Cond.fieldLink "CommitDesk" (23 : Nat) "CommitDesk" "doneTotal" "I"),
  (Jvm.Cond.fieldLink "CommitDesk" (27 : Nat) "CommitDesk" "staleTotal" "I"),
  (Jvm.Cond.laysFinal "CommitDesk" "CommitDesk" "numbers" "[J"),
  (Jvm.Cond.laysFinal "CommitDesk" "CommitDesk" "changes" "[I"),
  (Jvm.Cond.laysFinal "CommitDesk" "CommitDesk" "transactions" "[LCommitDesk$Transaction;"),
  (Jvm.Cond.lays "CommitDesk" "CommitDesk" "doneTotal" "I"),
  (Jvm.Cond.lays "CommitDesk" "CommitDesk" "staleTotal" "I"),
  (Jvm.Cond.superclass "CommitDesk" "java/lang/Object"),
  (Jvm.Cond.methodLink "CommitDeskLaw" (68 : Nat) ({ cls := "CommitDeskLaw", name := "begin", desc := "(LCommitDesk;I)I" } : Jvm.MethodName)),
  (Jvm.Cond.static ({ cls := "CommitDeskLaw", name := "begin", desc := "(LCommitDesk;I)I" } : Jvm.MethodName)),
  (Jvm.Cond.codeWith ({ cls := "CommitDeskLaw", name := "begin", desc := "(LCommitDesk;I)I" } : Jvm.MethodName) method_3_code (3 : Nat) (Option.some Jvm.ClassFile.FieldType.int) [((0 : Nat), (5 : Nat), (8 : Nat), (13 : Nat)), ((0 : Nat), (5 : Nat), (11 : Nat), (15 : Nat))]),
  (Jvm.Cond.classLink "CommitDeskLaw" (13 : Nat) "java/lang/IllegalArgumentException"),
  (Jvm.Cond.classLink "CommitDeskLaw" (15 : Nat) "java/lang/IllegalStateException"),
  (Jvm.Cond.methodLink "CommitDeskLaw" (7 : Nat) ({ cls := "CommitDesk", name := "begin", desc := "(I)V" } : Jvm.MethodName)),
  (Jvm.Cond.instanceMethod ({ cls := "CommitDesk", name := "begin", desc := "(I)V" } : Jvm.MethodName)),
  (Jvm.Cond.selects "CommitDesk" ({ cls := "CommitDesk", name := "begin", desc := "(I)V" } : Jvm.MethodName) ({ cls := "CommitDesk", name := "begin", desc := "(I)V" } : Jvm.MethodName)),
  (Jvm.Cond.code ({ cls := "CommitDesk", name := "begin", desc := "(I)V" } : Jvm.MethodName) prog_1_method_2_code (3 : Nat) (Option.none : Option Jvm.ClassFile.FieldType)),
  (Jvm.Cond.methodLink "CommitDesk" (31 : Nat) ({ cls := "CommitDesk", name := "transactionOf", desc := "(I)LCommitDesk$Transaction;" } : Jvm.MethodName)),
  (Jvm.Cond.instanceMethod ({ cls := "CommitDesk", name := "transactionOf", desc := "(I)LCommitDesk$Transaction;" } : Jvm.MethodName)),
  (Jvm.Cond.code ({ cls := "CommitDesk", name := "transactionOf", desc := "(I)LCommitDesk$Transaction;" } : Jvm.MethodName) prog_1_method_15_code (2 : Nat) (Option.some (Jvm.ClassFile.FieldType.object "CommitDesk$Transaction"))),
  (Jvm.Cond.classLink "CommitDesk" (111 : Nat) "java/lang/IllegalArgumentException")]
def BIG_2 : List Cond := [(Jvm.Cond.instantiable "java/lang/IllegalArgumentException" (6 : Nat)),
  (Jvm.Cond.selects "java/lang/IllegalArgumentException" ({ cls := "java/lang/Throwable", name := "fillInStackTrace", desc := "(I)Ljava/lang/Throwable;" } : Jvm.MethodName) ({ cls := "java/lang/Throwable", name := "fillInStackTrace", desc := "(I)Ljava/lang/Throwable;" } : Jvm.MethodName)),
  (Jvm.Cond.selects "java/lang/IllegalArgumentException" ({ cls := "java/lang/Throwable", name := "fillInStackTrace", desc := "()Ljava/lang/Throwable;" } : Jvm.MethodName) ({ cls := "java/lang/Throwable", name := "fillInStackTrace", desc := "()Ljava/lang/Throwable;" } : Jvm.MethodName)),
  (Jvm.Cond.lays "java/lang/IllegalArgumentException" "java/lang/Throwable" "cause" "Ljava/lang/Throwable;"),
  (Jvm.Cond.lays "java/lang/Throwable" "java/lang/Throwable" "cause" "Ljava/lang/Throwable;"),
  (Jvm.Cond.lays "java/lang/IllegalArgumentException" "java/lang/Throwable" "stackTrace" "[Ljava/lang/StackTraceElement;"),
  (Jvm.Cond.lays "java/lang/Throwable" "java/lang/Throwable" "stackTrace" "[Ljava/lang/StackTraceElement;"),
  (Jvm.Cond.lays "java/lang/IllegalArgumentException" "java/lang/Throwable" "suppressedExceptions" "Ljava/util/List;"),
  (Jvm.Cond.lays "java/lang/Throwable" "java/lang/Throwable" "suppressedExceptions" "Ljava/util/List;"),
  (Jvm.Cond.lays "java/lang/IllegalArgumentException" "java/lang/Throwable" "detailMessage" "Ljava/lang/String;"),
  (Jvm.Cond.lays "java/lang/Throwable" "java/lang/Throwable" "detailMessage" "Ljava/lang/String;"),
  (Jvm.Cond.lays "java/lang/IllegalArgumentException" "java/lang/Throwable" "backtrace" "Ljava/lang/Object;"),
  (Jvm.Cond.lays "java/lang/Throwable" "java/lang/Throwable" "backtrace" "Ljava/lang/Object;"),
  (Jvm.Cond.fieldLink "java/lang/Throwable" (198 : Nat) "java/lang/Throwable" "backtrace" "Ljava/lang/Object;"),
  (Jvm.Cond.superclass "java/lang/Throwable" "java/lang/Object"),
  (Jvm.Cond.instanceMethod ({ cls := "java/lang/Throwable", name := "<init>", desc := "()V" } : Jvm.MethodName)),
  (Jvm.Cond.code ({ cls := "java/lang/Throwable", name := "<init>", desc := "()V" } : Jvm.MethodName) prog_12_method_1_code (1 : Nat) (Option.none : Option Jvm.ClassFile.FieldType)),
  (Jvm.Cond.methodLink "java/lang/Throwable" (1 : Nat) ({ cls := "java/lang/Object", name := "<init>", desc := "()V" } : Jvm.MethodName)),
  (Jvm.Cond.fieldLink "java/lang/Throwable" (13 : Nat) "java/lang/Throwable" "UNASSIGNED_STACK" "[Ljava/lang/StackTraceElement;"),
  (Jvm.Cond.fieldLink "java/lang/Throwable" (20 : Nat) "java/lang/Throwable" "SUPPRESSED_SENTINEL" "Ljava/util/List;"),
  (Jvm.Cond.methodLink "java/lang/Throwable" (27 : Nat) ({ cls := "java/lang/Throwable", name := "fillInStackTrace", desc := "()Ljava/lang/Throwable;" } : Jvm.MethodName)),
  (Jvm.Cond.instanceMethod ({ cls := "java/lang/Throwable", name := "fillInStackTrace", desc := "()Ljava/lang/Throwable;" } : Jvm.MethodName)),
  (Jvm.Cond.selects "java/lang/IllegalStateException" ({ cls := "java/lang/Throwable", name := "fillInStackTrace", desc := "()Ljava/lang/Throwable;" } : Jvm.MethodName) ({ cls := "java/lang/Throwable", name := "fillInStackTrace", desc := "()Ljava/lang/Throwable;" } : Jvm.MethodName)),
  (Jvm.Cond.selects "java/lang/IndexOutOfBoundsException" ({ cls := "java/lang/Throwable", name := "fillInStackTrace", desc := "()Ljava/lang/Throwable;" } : Jvm.MethodName) ({ cls := "java/lang/Throwable", name := "fillInStackTrace", desc := "()Ljava/lang/Throwable;" } : Jvm.MethodName)),
  (Jvm.Cond.selects "java/lang/UnsupportedOperationException" ({ cls := "java/lang/Throwable", name := "fillInStackTrace", desc := "()Ljava/lang/Throwable;" } : Jvm.MethodName) ({ cls := "java/lang/Throwable", name := "fillInStackTrace", desc := "()Ljava/lang/Throwable;" } : Jvm.MethodName)),
  (Jvm.Cond.methodLink "java/lang/Throwable" (202 : Nat) ({ cls := "java/lang/Throwable", name := "fillInStackTrace", desc := "(I)Ljava/lang/Throwable;" } : Jvm.MethodName)),
  (Jvm.Cond.instanceMethod ({ cls := "java/lang/Throwable", name := "fillInStackTrace", desc := "(I)Ljava/lang/Throwable;" } : Jvm.MethodName)),
  (Jvm.Cond.instantiable "java/lang/Throwable" (6 : Nat)),
  (Jvm.Cond.methodLink "CommitDesk" (115 : Nat) ({ cls := "java/lang/IllegalArgumentException", name := "<init>", desc := "(Ljava/lang/String;)V" } : Jvm.MethodName)),
  (Jvm.Cond.instanceMethod ({ cls := "java/lang/IllegalArgumentException", name := "<init>", desc := "(Ljava/lang/String;)V" } : Jvm.MethodName)),
  (Jvm.Cond.code ({ cls := "java/lang/IllegalArgumentException", name := "<init>", desc := "(Ljava/lang/String;)V" } : Jvm.MethodName) prog_6_method_2_code (2 : Nat) (Option.none : Option Jvm.ClassFile.FieldType)),
  (Jvm.Cond.methodLink "java/lang/IllegalArgumentException" (7 : Nat) ({ cls := "java/lang/RuntimeException", name := "<init>", desc := "(Ljava/lang/String;)V" } : Jvm.MethodName)),
  (Jvm.Cond.instanceMethod ({ cls := "java/lang/RuntimeException", name := "<init>", desc := "(Ljava/lang/String;)V" } : Jvm.MethodName)),
  (Jvm.Cond.code ({ cls := "java/lang/RuntimeException", name := "<init>", desc := "(Ljava/lang/String;)V" } : Jvm.MethodName) prog_10_method_2_code (2 : Nat) (Option.none : Option Jvm.ClassFile.FieldType)),
  (Jvm.Cond.methodLink "java/lang/RuntimeException" (7 : Nat) ({ cls := "java/lang/Exception", name := "<init>", desc := "(Ljava/lang/String;)V" } : Jvm.MethodName)),
  (Jvm.Cond.instanceMethod ({ cls := "java/lang/Exception", name := "<init>", desc := "(Ljava/lang/String;)V" } : Jvm.MethodName)),
  (Jvm.Cond.code ({ cls := "java/lang/Exception", name := "<init>", desc := "(Ljava/lang/String;)V" } : Jvm.MethodName) prog_5_method_2_code (2 : Nat) (Option.none : Option Jvm.ClassFile.FieldType)),
  (Jvm.Cond.methodLink "java/lang/Exception" (7 : Nat) ({ cls := "java/lang/Throwable", name := "<init>", desc := "(Ljava/lang/String;)V" } : Jvm.MethodName)),
  (Jvm.Cond.instanceMethod ({ cls := "java/lang/Throwable", name := "<init>", desc := "(Ljava/lang/String;)V" } : Jvm.MethodName)),
  (Jvm.Cond.code ({ cls := "java/lang/Throwable", name := "<init>", desc := "(Ljava/lang/String;)V" } : Jvm.MethodName) prog_12_method_2_code (2 : Nat) (Option.none : Option Jvm.ClassFile.FieldType))]
def BIG_3 : List Cond := [(Jvm.Cond.fieldLink "java/lang/Throwable" (31 : Nat) "java/lang/Throwable" "detailMessage" "Ljava/lang/String;"),
  (Jvm.Cond.fieldLink "java/lang/Throwable" (7 : Nat) "java/lang/Throwable" "cause" "Ljava/lang/Throwable;"),
  (Jvm.Cond.fieldLink "java/lang/Throwable" (17 : Nat) "java/lang/Throwable" "stackTrace" "[Ljava/lang/StackTraceElement;"),
  (Jvm.Cond.fieldLink "java/lang/Throwable" (24 : Nat) "java/lang/Throwable" "suppressedExceptions" "Ljava/util/List;"),
  (Jvm.Cond.lays "java/lang/IllegalArgumentException" "java/lang/Throwable" "depth" "I"),
  (Jvm.Cond.superclass "java/lang/IllegalArgumentException" "java/lang/RuntimeException"),
  (Jvm.Cond.arrayClass Jvm.ClassFile.FieldType.byte),
  (Jvm.Cond.methodLink "CommitDesk" (35 : Nat) ({ cls := "CommitDesk$Transaction", name := "isOpen", desc := "()Z" } : Jvm.MethodName)),
  (Jvm.Cond.instanceMethod ({ cls := "CommitDesk$Transaction", name := "isOpen", desc := "()Z" } : Jvm.MethodName)),
  (Jvm.Cond.selects "CommitDesk$Transaction" ({ cls := "CommitDesk$Transaction", name := "isOpen", desc := "()Z" } : Jvm.MethodName) ({ cls := "CommitDesk$Transaction", name := "isOpen", desc := "()Z" } : Jvm.MethodName)),
  (Jvm.Cond.code ({ cls := "CommitDesk$Transaction", name := "isOpen", desc := "()Z" } : Jvm.MethodName) prog_2_method_2_code (1 : Nat) (Option.some Jvm.ClassFile.FieldType.boolean)),
  (Jvm.Cond.classLink "CommitDesk" (39 : Nat) "java/lang/IllegalStateException"),
  (Jvm.Cond.instantiable "java/lang/IllegalStateException" (6 : Nat)),
  (Jvm.Cond.selects "java/lang/IllegalStateException" ({ cls := "java/lang/Throwable", name := "fillInStackTrace", desc := "(I)Ljava/lang/Throwable;" } : Jvm.MethodName) ({ cls := "java/lang/Throwable", name := "fillInStackTrace", desc := "(I)Ljava/lang/Throwable;" } : Jvm.MethodName)),
  (Jvm.Cond.lays "java/lang/IllegalStateException" "java/lang/Throwable" "cause" "Ljava/lang/Throwable;"),
  (Jvm.Cond.lays "java/lang/IllegalStateException" "java/lang/Throwable" "stackTrace" "[Ljava/lang/StackTraceElement;"),
  (Jvm.Cond.lays "java/lang/IllegalStateException" "java/lang/Throwable" "suppressedExceptions" "Ljava/util/List;"),
  (Jvm.Cond.lays "java/lang/IllegalStateException" "java/lang/Throwable" "detailMessage" "Ljava/lang/String;"),
  (Jvm.Cond.lays "java/lang/IllegalStateException" "java/lang/Throwable" "backtrace" "Ljava/lang/Object;"),
  (Jvm.Cond.methodLink "CommitDesk" (43 : Nat) ({ cls := "java/lang/IllegalStateException", name := "<init>", desc := "(Ljava/lang/String;)V" } : Jvm.MethodName)),
  (Jvm.Cond.instanceMethod ({ cls := "java/lang/IllegalStateException", name := "<init>", desc := "(Ljava/lang/String;)V" } : Jvm.MethodName)),
  (Jvm.Cond.code ({ cls := "java/lang/IllegalStateException", name := "<init>", desc := "(Ljava/lang/String;)V" } : Jvm.MethodName) prog_7_method_2_code (2 : Nat) (Option.none : Option Jvm.ClassFile.FieldType)),
  (Jvm.Cond.methodLink "java/lang/IllegalStateException" (7 : Nat) ({ cls := "java/lang/RuntimeException", name := "<init>", desc := "(Ljava/lang/String;)V" } : Jvm.MethodName)),
  (Jvm.Cond.lays "java/lang/IllegalStateException" "java/lang/Throwable" "depth" "I"),
  (Jvm.Cond.superclass "java/lang/IllegalStateException" "java/lang/RuntimeException"),
  (Jvm.Cond.methodLink "CommitDesk" (46 : Nat) ({ cls := "CommitDesk$Transaction", name := "start", desc := "()V" } : Jvm.MethodName)),
  (Jvm.Cond.instanceMethod ({ cls := "CommitDesk$Transaction", name := "start", desc := "()V" } : Jvm.MethodName)),
  (Jvm.Cond.selects "CommitDesk$Transaction" ({ cls := "CommitDesk$Transaction", name := "start", desc := "()V" } : Jvm.MethodName) ({ cls := "CommitDesk$Transaction", name := "start", desc := "()V" } : Jvm.MethodName)),
  (Jvm.Cond.code ({ cls := "CommitDesk$Transaction", name := "start", desc := "()V" } : Jvm.MethodName) prog_2_method_7_code (1 : Nat) (Option.none : Option Jvm.ClassFile.FieldType)),
  (Jvm.Cond.methodLink "CommitDeskLaw" (78 : Nat) ({ cls := "CommitDeskLaw", name := "read", desc := "(LCommitDesk;II[J)I" } : Jvm.MethodName)),
  (Jvm.Cond.static ({ cls := "CommitDeskLaw", name := "read", desc := "(LCommitDesk;II[J)I" } : Jvm.MethodName)),
  (Jvm.Cond.codeWith ({ cls := "CommitDeskLaw", name := "read", desc := "(LCommitDesk;II[J)I" } : Jvm.MethodName) method_4_code (5 : Nat) (Option.some Jvm.ClassFile.FieldType.int) [((0 : Nat), (9 : Nat), (12 : Nat), (13 : Nat)), ((0 : Nat), (9 : Nat), (16 : Nat), (21 : Nat)), ((0 : Nat), (9 : Nat), (20 : Nat), (15 : Nat)), ((0 : Nat), (9 : Nat), (24 : Nat), (23 : Nat))]),
  (Jvm.Cond.classLink "CommitDeskLaw" (21 : Nat) "java/lang/IndexOutOfBoundsException"),
  (Jvm.Cond.classLink "CommitDeskLaw" (23 : Nat) "java/lang/UnsupportedOperationException"),
  (Jvm.Cond.methodLink "CommitDeskLaw" (17 : Nat) ({ cls := "CommitDesk", name := "read", desc := "(II)J" } : Jvm.MethodName)),
  (Jvm.Cond.instanceMethod ({ cls := "CommitDesk", name := "read", desc := "(II)J" } : Jvm.MethodName)),
  (Jvm.Cond.selects "CommitDesk" ({ cls := "CommitDesk", name := "read", desc := "(II)J" } : Jvm.MethodName) ({ cls := "CommitDesk", name := "read", desc := "(II)J" } : Jvm.MethodName)),
  (Jvm.Cond.code ({ cls := "CommitDesk", name := "read", desc := "(II)J" } : Jvm.MethodName) prog_1_method_3_code (5 : Nat) (Option.some Jvm.ClassFile.FieldType.long)),
  (Jvm.Cond.methodLink "CommitDesk" (49 : Nat) ({ cls := "CommitDesk", name := "openTransactionAt", desc := "(II)LCommitDesk$Transaction;" } : Jvm.MethodName)),
  (Jvm.Cond.instanceMethod ({ cls := "CommitDesk", name := "openTransactionAt", desc := "(II)LCommitDesk$Transaction;" } : Jvm.MethodName))]
def BIG_4 : List Cond := [(Jvm.Cond.code ({ cls := "CommitDesk", name := "openTransactionAt", desc := "(II)LCommitDesk$Transaction;" } : Jvm.MethodName) prog_1_method_18_code (3 : Nat) (Option.some (Jvm.ClassFile.FieldType.object "CommitDesk$Transaction"))),
  (Jvm.Cond.methodLink "CommitDesk" (108 : Nat) ({ cls := "CommitDesk", name := "requireCell", desc := "(I)V" } : Jvm.MethodName)),
  (Jvm.Cond.instanceMethod ({ cls := "CommitDesk", name := "requireCell", desc := "(I)V" } : Jvm.MethodName)),
  (Jvm.Cond.code ({ cls := "CommitDesk", name := "requireCell", desc := "(I)V" } : Jvm.MethodName) prog_1_method_16_code (2 : Nat) (Option.none : Option Jvm.ClassFile.FieldType)),
  (Jvm.Cond.classLink "CommitDesk" (127 : Nat) "java/lang/IndexOutOfBoundsException"),
  (Jvm.Cond.instantiable "java/lang/IndexOutOfBoundsException" (6 : Nat)),
  (Jvm.Cond.selects "java/lang/IndexOutOfBoundsException" ({ cls := "java/lang/Throwable", name := "fillInStackTrace", desc := "(I)Ljava/lang/Throwable;" } : Jvm.MethodName) ({ cls := "java/lang/Throwable", name := "fillInStackTrace", desc := "(I)Ljava/lang/Throwable;" } : Jvm.MethodName)),
  (Jvm.Cond.lays "java/lang/IndexOutOfBoundsException" "java/lang/Throwable" "cause" "Ljava/lang/Throwable;"),
  (Jvm.Cond.lays "java/lang/IndexOutOfBoundsException" "java/lang/Throwable" "stackTrace" "[Ljava/lang/StackTraceElement;"),
  (Jvm.Cond.lays "java/lang/IndexOutOfBoundsException" "java/lang/Throwable" "suppressedExceptions" "Ljava/util/List;"),
  (Jvm.Cond.lays "java/lang/IndexOutOfBoundsException" "java/lang/Throwable" "detailMessage" "Ljava/lang/String;"),
  (Jvm.Cond.lays "java/lang/IndexOutOfBoundsException" "java/lang/Throwable" "backtrace" "Ljava/lang/Object;"),
  (Jvm.Cond.methodLink "CommitDesk" (131 : Nat) ({ cls := "java/lang/IndexOutOfBoundsException", name := "<init>", desc := "(Ljava/lang/String;)V" } : Jvm.MethodName)),
  (Jvm.Cond.instanceMethod ({ cls := "java/lang/IndexOutOfBoundsException", name := "<init>", desc := "(Ljava/lang/String;)V" } : Jvm.MethodName)),
  (Jvm.Cond.code ({ cls := "java/lang/IndexOutOfBoundsException", name := "<init>", desc := "(Ljava/lang/String;)V" } : Jvm.MethodName) prog_8_method_2_code (2 : Nat) (Option.none : Option Jvm.ClassFile.FieldType)),
  (Jvm.Cond.methodLink "java/lang/IndexOutOfBoundsException" (7 : Nat) ({ cls := "java/lang/RuntimeException", name := "<init>", desc := "(Ljava/lang/String;)V" } : Jvm.MethodName)),
  (Jvm.Cond.lays "java/lang/IndexOutOfBoundsException" "java/lang/Throwable" "depth" "I"),
  (Jvm.Cond.superclass "java/lang/IndexOutOfBoundsException" "java/lang/RuntimeException"),
  (Jvm.Cond.methodLink "CommitDesk" (81 : Nat) ({ cls := "CommitDesk", name := "openTransactionOf", desc := "(I)LCommitDesk$Transaction;" } : Jvm.MethodName)),
  (Jvm.Cond.instanceMethod ({ cls := "CommitDesk", name := "openTransactionOf", desc := "(I)LCommitDesk$Transaction;" } : Jvm.MethodName)),
  (Jvm.Cond.code ({ cls := "CommitDesk", name := "openTransactionOf", desc := "(I)LCommitDesk$Transaction;" } : Jvm.MethodName) prog_1_method_17_code (3 : Nat) (Option.some (Jvm.ClassFile.FieldType.object "CommitDesk$Transaction"))),
  (Jvm.Cond.methodLink "CommitDesk" (53 : Nat) ({ cls := "CommitDesk$Transaction", name := "lastPartWith", desc := "(I)I" } : Jvm.MethodName)),
  (Jvm.Cond.instanceMethod ({ cls := "CommitDesk$Transaction", name := "lastPartWith", desc := "(I)I" } : Jvm.MethodName)),
  (Jvm.Cond.selects "CommitDesk$Transaction" ({ cls := "CommitDesk$Transaction", name := "lastPartWith", desc := "(I)I" } : Jvm.MethodName) ({ cls := "CommitDesk$Transaction", name := "lastPartWith", desc := "(I)I" } : Jvm.MethodName)),
  (Jvm.Cond.code ({ cls := "CommitDesk$Transaction", name := "lastPartWith", desc := "(I)I" } : Jvm.MethodName) prog_2_method_11_code (3 : Nat) (Option.some Jvm.ClassFile.FieldType.int)),
  (Jvm.Cond.methodLink "CommitDesk$Transaction" (40 : Nat) ({ cls := "CommitDesk$Transaction", name := "holds", desc := "(II)Z" } : Jvm.MethodName)),
  (Jvm.Cond.static ({ cls := "CommitDesk$Transaction", name := "holds", desc := "(II)Z" } : Jvm.MethodName)),
  (Jvm.Cond.code ({ cls := "CommitDesk$Transaction", name := "holds", desc := "(II)Z" } : Jvm.MethodName) prog_2_method_18_code (2 : Nat) (Option.some Jvm.ClassFile.FieldType.boolean)),
  (Jvm.Cond.methodLink "CommitDesk" (57 : Nat) ({ cls := "CommitDesk$Transaction", name := "writtenIn", desc := "(II)J" } : Jvm.MethodName)),
  (Jvm.Cond.instanceMethod ({ cls := "CommitDesk$Transaction", name := "writtenIn", desc := "(II)J" } : Jvm.MethodName)),
  (Jvm.Cond.selects "CommitDesk$Transaction" ({ cls := "CommitDesk$Transaction", name := "writtenIn", desc := "(II)J" } : Jvm.MethodName) ({ cls := "CommitDesk$Transaction", name := "writtenIn", desc := "(II)J" } : Jvm.MethodName)),
  (Jvm.Cond.code ({ cls := "CommitDesk$Transaction", name := "writtenIn", desc := "(II)J" } : Jvm.MethodName) prog_2_method_12_code (3 : Nat) (Option.some Jvm.ClassFile.FieldType.long)),
  (Jvm.Cond.methodLink "CommitDesk" (61 : Nat) ({ cls := "CommitDesk$Transaction", name := "isStale", desc := "()Z" } : Jvm.MethodName)),
  (Jvm.Cond.instanceMethod ({ cls := "CommitDesk$Transaction", name := "isStale", desc := "()Z" } : Jvm.MethodName)),
  (Jvm.Cond.selects "CommitDesk$Transaction" ({ cls := "CommitDesk$Transaction", name := "isStale", desc := "()Z" } : Jvm.MethodName) ({ cls := "CommitDesk$Transaction", name := "isStale", desc := "()Z" } : Jvm.MethodName)),
  (Jvm.Cond.code ({ cls := "CommitDesk$Transaction", name := "isStale", desc := "()Z" } : Jvm.MethodName) prog_2_method_3_code (1 : Nat) (Option.some Jvm.ClassFile.FieldType.boolean)),
  (Jvm.Cond.methodLink "CommitDesk" (64 : Nat) ({ cls := "CommitDesk", name := "endStale", desc := "(LCommitDesk$Transaction;)V" } : Jvm.MethodName)),
  (Jvm.Cond.instanceMethod ({ cls := "CommitDesk", name := "endStale", desc := "(LCommitDesk$Transaction;)V" } : Jvm.MethodName)),
  (Jvm.Cond.code ({ cls := "CommitDesk", name := "endStale", desc := "(LCommitDesk$Transaction;)V" } : Jvm.MethodName) prog_1_method_20_code (2 : Nat) (Option.none : Option Jvm.ClassFile.FieldType)),
  (Jvm.Cond.methodLink "CommitDesk" (102 : Nat) ({ cls := "CommitDesk$Transaction", name := "close", desc := "()V" } : Jvm.MethodName))]
def BIG_5 : List Cond := [(Jvm.Cond.instanceMethod ({ cls := "CommitDesk$Transaction", name := "close", desc := "()V" } : Jvm.MethodName)),
  (Jvm.Cond.selects "CommitDesk$Transaction" ({ cls := "CommitDesk$Transaction", name := "close", desc := "()V" } : Jvm.MethodName) ({ cls := "CommitDesk$Transaction", name := "close", desc := "()V" } : Jvm.MethodName)),
  (Jvm.Cond.code ({ cls := "CommitDesk$Transaction", name := "close", desc := "()V" } : Jvm.MethodName) prog_2_method_8_code (1 : Nat) (Option.none : Option Jvm.ClassFile.FieldType)),
  (Jvm.Cond.classLink "CommitDesk" (68 : Nat) "java/lang/UnsupportedOperationException"),
  (Jvm.Cond.instantiable "java/lang/UnsupportedOperationException" (6 : Nat)),
  (Jvm.Cond.selects "java/lang/UnsupportedOperationException" ({ cls := "java/lang/Throwable", name := "fillInStackTrace", desc := "(I)Ljava/lang/Throwable;" } : Jvm.MethodName) ({ cls := "java/lang/Throwable", name := "fillInStackTrace", desc := "(I)Ljava/lang/Throwable;" } : Jvm.MethodName)),
  (Jvm.Cond.lays "java/lang/UnsupportedOperationException" "java/lang/Throwable" "cause" "Ljava/lang/Throwable;"),
  (Jvm.Cond.lays "java/lang/UnsupportedOperationException" "java/lang/Throwable" "stackTrace" "[Ljava/lang/StackTraceElement;"),
  (Jvm.Cond.lays "java/lang/UnsupportedOperationException" "java/lang/Throwable" "suppressedExceptions" "Ljava/util/List;"),
  (Jvm.Cond.lays "java/lang/UnsupportedOperationException" "java/lang/Throwable" "detailMessage" "Ljava/lang/String;"),
  (Jvm.Cond.lays "java/lang/UnsupportedOperationException" "java/lang/Throwable" "backtrace" "Ljava/lang/Object;"),
  (Jvm.Cond.methodLink "CommitDesk" (72 : Nat) ({ cls := "java/lang/UnsupportedOperationException", name := "<init>", desc := "(Ljava/lang/String;)V" } : Jvm.MethodName)),
  (Jvm.Cond.instanceMethod ({ cls := "java/lang/UnsupportedOperationException", name := "<init>", desc := "(Ljava/lang/String;)V" } : Jvm.MethodName)),
  (Jvm.Cond.code ({ cls := "java/lang/UnsupportedOperationException", name := "<init>", desc := "(Ljava/lang/String;)V" } : Jvm.MethodName) prog_13_method_2_code (2 : Nat) (Option.none : Option Jvm.ClassFile.FieldType)),
  (Jvm.Cond.methodLink "java/lang/UnsupportedOperationException" (7 : Nat) ({ cls := "java/lang/RuntimeException", name := "<init>", desc := "(Ljava/lang/String;)V" } : Jvm.MethodName)),
  (Jvm.Cond.lays "java/lang/UnsupportedOperationException" "java/lang/Throwable" "depth" "I"),
  (Jvm.Cond.superclass "java/lang/UnsupportedOperationException" "java/lang/RuntimeException"),
  (Jvm.Cond.methodLink "CommitDesk" (73 : Nat) ({ cls := "CommitDesk$Transaction", name := "markRead", desc := "(I)V" } : Jvm.MethodName)),
  (Jvm.Cond.instanceMethod ({ cls := "CommitDesk$Transaction", name := "markRead", desc := "(I)V" } : Jvm.MethodName)),
  (Jvm.Cond.selects "CommitDesk$Transaction" ({ cls := "CommitDesk$Transaction", name := "markRead", desc := "(I)V" } : Jvm.MethodName) ({ cls := "CommitDesk$Transaction", name := "markRead", desc := "(I)V" } : Jvm.MethodName)),
  (Jvm.Cond.code ({ cls := "CommitDesk$Transaction", name := "markRead", desc := "(I)V" } : Jvm.MethodName) prog_2_method_9_code (2 : Nat) (Option.none : Option Jvm.ClassFile.FieldType)),
  (Jvm.Cond.methodLink "CommitDeskLaw" (84 : Nat) ({ cls := "CommitDeskLaw", name := "write", desc := "(LCommitDesk;IIJ)I" } : Jvm.MethodName)),
  (Jvm.Cond.static ({ cls := "CommitDeskLaw", name := "write", desc := "(LCommitDesk;IIJ)I" } : Jvm.MethodName)),
  (Jvm.Cond.codeWith ({ cls := "CommitDeskLaw", name := "write", desc := "(LCommitDesk;IIJ)I" } : Jvm.MethodName) method_5_code (6 : Nat) (Option.some Jvm.ClassFile.FieldType.int) [((0 : Nat), (7 : Nat), (10 : Nat), (13 : Nat)), ((0 : Nat), (7 : Nat), (14 : Nat), (21 : Nat)), ((0 : Nat), (7 : Nat), (18 : Nat), (15 : Nat))]),
  (Jvm.Cond.methodLink "CommitDeskLaw" (25 : Nat) ({ cls := "CommitDesk", name := "write", desc := "(IIJ)V" } : Jvm.MethodName)),
  (Jvm.Cond.instanceMethod ({ cls := "CommitDesk", name := "write", desc := "(IIJ)V" } : Jvm.MethodName)),
  (Jvm.Cond.selects "CommitDesk" ({ cls := "CommitDesk", name := "write", desc := "(IIJ)V" } : Jvm.MethodName) ({ cls := "CommitDesk", name := "write", desc := "(IIJ)V" } : Jvm.MethodName)),
  (Jvm.Cond.code ({ cls := "CommitDesk", name := "write", desc := "(IIJ)V" } : Jvm.MethodName) prog_1_method_4_code (5 : Nat) (Option.none : Option Jvm.ClassFile.FieldType)),
  (Jvm.Cond.methodLink "CommitDesk" (77 : Nat) ({ cls := "CommitDesk$Transaction", name := "putInLastPart", desc := "(IJ)V" } : Jvm.MethodName)),
  (Jvm.Cond.instanceMethod ({ cls := "CommitDesk$Transaction", name := "putInLastPart", desc := "(IJ)V" } : Jvm.MethodName)),
  (Jvm.Cond.selects "CommitDesk$Transaction" ({ cls := "CommitDesk$Transaction", name := "putInLastPart", desc := "(IJ)V" } : Jvm.MethodName) ({ cls := "CommitDesk$Transaction", name := "putInLastPart", desc := "(IJ)V" } : Jvm.MethodName)),
  (Jvm.Cond.code ({ cls := "CommitDesk$Transaction", name := "putInLastPart", desc := "(IJ)V" } : Jvm.MethodName) prog_2_method_13_code (4 : Nat) (Option.none : Option Jvm.ClassFile.FieldType)),
  (Jvm.Cond.methodLink "CommitDesk$Transaction" (44 : Nat) ({ cls := "CommitDesk$Transaction", name := "putInPart", desc := "(IIJ)V" } : Jvm.MethodName)),
  (Jvm.Cond.instanceMethod ({ cls := "CommitDesk$Transaction", name := "putInPart", desc := "(IIJ)V" } : Jvm.MethodName)),
  (Jvm.Cond.code ({ cls := "CommitDesk$Transaction", name := "putInPart", desc := "(IIJ)V" } : Jvm.MethodName) prog_2_method_17_code (5 : Nat) (Option.none : Option Jvm.ClassFile.FieldType)),
  (Jvm.Cond.methodLink "CommitDeskLaw" (88 : Nat) ({ cls := "CommitDeskLaw", name := "save", desc := "(LCommitDesk;I[J)I" } : Jvm.MethodName)),
  (Jvm.Cond.static ({ cls := "CommitDeskLaw", name := "save", desc := "(LCommitDesk;I[J)I" } : Jvm.MethodName)),
  (Jvm.Cond.codeWith ({ cls := "CommitDeskLaw", name := "save", desc := "(LCommitDesk;I[J)I" } : Jvm.MethodName) method_6_code (4 : Nat) (Option.some Jvm.ClassFile.FieldType.int) [((0 : Nat), (9 : Nat), (12 : Nat), (13 : Nat)), ((0 : Nat), (9 : Nat), (15 : Nat), (15 : Nat)), ((0 : Nat), (9 : Nat), (18 : Nat), (23 : Nat))]),
  (Jvm.Cond.methodLink "CommitDeskLaw" (29 : Nat) ({ cls := "CommitDesk", name := "save", desc := "(I)I" } : Jvm.MethodName)),
  (Jvm.Cond.instanceMethod ({ cls := "CommitDesk", name := "save", desc := "(I)I" } : Jvm.MethodName))]
def BIG_6 : List Cond := [(Jvm.Cond.selects "CommitDesk" ({ cls := "CommitDesk", name := "save", desc := "(I)I" } : Jvm.MethodName) ({ cls := "CommitDesk", name := "save", desc := "(I)I" } : Jvm.MethodName)),
  (Jvm.Cond.code ({ cls := "CommitDesk", name := "save", desc := "(I)I" } : Jvm.MethodName) prog_1_method_5_code (3 : Nat) (Option.some Jvm.ClassFile.FieldType.int)),
  (Jvm.Cond.methodLink "CommitDesk" (84 : Nat) ({ cls := "CommitDesk$Transaction", name := "partCount", desc := "()I" } : Jvm.MethodName)),
  (Jvm.Cond.instanceMethod ({ cls := "CommitDesk$Transaction", name := "partCount", desc := "()I" } : Jvm.MethodName)),
  (Jvm.Cond.selects "CommitDesk$Transaction" ({ cls := "CommitDesk$Transaction", name := "partCount", desc := "()I" } : Jvm.MethodName) ({ cls := "CommitDesk$Transaction", name := "partCount", desc := "()I" } : Jvm.MethodName)),
  (Jvm.Cond.code ({ cls := "CommitDesk$Transaction", name := "partCount", desc := "()I" } : Jvm.MethodName) prog_2_method_4_code (1 : Nat) (Option.some Jvm.ClassFile.FieldType.int)),
  (Jvm.Cond.methodLink "CommitDesk" (90 : Nat) ({ cls := "CommitDesk$Transaction", name := "addPart", desc := "()V" } : Jvm.MethodName)),
  (Jvm.Cond.instanceMethod ({ cls := "CommitDesk$Transaction", name := "addPart", desc := "()V" } : Jvm.MethodName)),
  (Jvm.Cond.selects "CommitDesk$Transaction" ({ cls := "CommitDesk$Transaction", name := "addPart", desc := "()V" } : Jvm.MethodName) ({ cls := "CommitDesk$Transaction", name := "addPart", desc := "()V" } : Jvm.MethodName)),
  (Jvm.Cond.code ({ cls := "CommitDesk$Transaction", name := "addPart", desc := "()V" } : Jvm.MethodName) prog_2_method_14_code (1 : Nat) (Option.none : Option Jvm.ClassFile.FieldType)),
  (Jvm.Cond.methodLink "CommitDeskLaw" (92 : Nat) ({ cls := "CommitDeskLaw", name := "back", desc := "(LCommitDesk;I)I" } : Jvm.MethodName)),
  (Jvm.Cond.static ({ cls := "CommitDeskLaw", name := "back", desc := "(LCommitDesk;I)I" } : Jvm.MethodName)),
  (Jvm.Cond.codeWith ({ cls := "CommitDeskLaw", name := "back", desc := "(LCommitDesk;I)I" } : Jvm.MethodName) method_7_code (3 : Nat) (Option.some Jvm.ClassFile.FieldType.int) [((0 : Nat), (5 : Nat), (8 : Nat), (13 : Nat)), ((0 : Nat), (5 : Nat), (11 : Nat), (15 : Nat)), ((0 : Nat), (5 : Nat), (14 : Nat), (23 : Nat))]),
  (Jvm.Cond.methodLink "CommitDeskLaw" (33 : Nat) ({ cls := "CommitDesk", name := "back", desc := "(I)V" } : Jvm.MethodName)),
  (Jvm.Cond.instanceMethod ({ cls := "CommitDesk", name := "back", desc := "(I)V" } : Jvm.MethodName)),
  (Jvm.Cond.selects "CommitDesk" ({ cls := "CommitDesk", name := "back", desc := "(I)V" } : Jvm.MethodName) ({ cls := "CommitDesk", name := "back", desc := "(I)V" } : Jvm.MethodName)),
  (Jvm.Cond.code ({ cls := "CommitDesk", name := "back", desc := "(I)V" } : Jvm.MethodName) prog_1_method_6_code (2 : Nat) (Option.none : Option Jvm.ClassFile.FieldType)),
  (Jvm.Cond.methodLink "CommitDesk" (93 : Nat) ({ cls := "CommitDesk", name := "transactionWithSeveralParts", desc := "(I)LCommitDesk$Transaction;" } : Jvm.MethodName)),
  (Jvm.Cond.instanceMethod ({ cls := "CommitDesk", name := "transactionWithSeveralParts", desc := "(I)LCommitDesk$Transaction;" } : Jvm.MethodName)),
  (Jvm.Cond.code ({ cls := "CommitDesk", name := "transactionWithSeveralParts", desc := "(I)LCommitDesk$Transaction;" } : Jvm.MethodName) prog_1_method_19_code (3 : Nat) (Option.some (Jvm.ClassFile.FieldType.object "CommitDesk$Transaction"))),
  (Jvm.Cond.methodLink "CommitDesk" (96 : Nat) ({ cls := "CommitDesk$Transaction", name := "dropLastPart", desc := "()V" } : Jvm.MethodName)),
  (Jvm.Cond.instanceMethod ({ cls := "CommitDesk$Transaction", name := "dropLastPart", desc := "()V" } : Jvm.MethodName)),
  (Jvm.Cond.selects "CommitDesk$Transaction" ({ cls := "CommitDesk$Transaction", name := "dropLastPart", desc := "()V" } : Jvm.MethodName) ({ cls := "CommitDesk$Transaction", name := "dropLastPart", desc := "()V" } : Jvm.MethodName)),
  (Jvm.Cond.code ({ cls := "CommitDesk$Transaction", name := "dropLastPart", desc := "()V" } : Jvm.MethodName) prog_2_method_15_code (1 : Nat) (Option.none : Option Jvm.ClassFile.FieldType)),
  (Jvm.Cond.methodLink "CommitDeskLaw" (95 : Nat) ({ cls := "CommitDeskLaw", name := "keep", desc := "(LCommitDesk;I)I" } : Jvm.MethodName)),
  (Jvm.Cond.static ({ cls := "CommitDeskLaw", name := "keep", desc := "(LCommitDesk;I)I" } : Jvm.MethodName)),
  (Jvm.Cond.codeWith ({ cls := "CommitDeskLaw", name := "keep", desc := "(LCommitDesk;I)I" } : Jvm.MethodName) method_8_code (3 : Nat) (Option.some Jvm.ClassFile.FieldType.int) [((0 : Nat), (5 : Nat), (8 : Nat), (13 : Nat)), ((0 : Nat), (5 : Nat), (11 : Nat), (15 : Nat)), ((0 : Nat), (5 : Nat), (14 : Nat), (23 : Nat))]),
  (Jvm.Cond.methodLink "CommitDeskLaw" (36 : Nat) ({ cls := "CommitDesk", name := "keep", desc := "(I)V" } : Jvm.MethodName)),
  (Jvm.Cond.instanceMethod ({ cls := "CommitDesk", name := "keep", desc := "(I)V" } : Jvm.MethodName)),
  (Jvm.Cond.selects "CommitDesk" ({ cls := "CommitDesk", name := "keep", desc := "(I)V" } : Jvm.MethodName) ({ cls := "CommitDesk", name := "keep", desc := "(I)V" } : Jvm.MethodName)),
  (Jvm.Cond.code ({ cls := "CommitDesk", name := "keep", desc := "(I)V" } : Jvm.MethodName) prog_1_method_7_code (2 : Nat) (Option.none : Option Jvm.ClassFile.FieldType)),
  (Jvm.Cond.methodLink "CommitDesk" (99 : Nat) ({ cls := "CommitDesk$Transaction", name := "mergeLastPart", desc := "()V" } : Jvm.MethodName)),
  (Jvm.Cond.instanceMethod ({ cls := "CommitDesk$Transaction", name := "mergeLastPart", desc := "()V" } : Jvm.MethodName)),
  (Jvm.Cond.selects "CommitDesk$Transaction" ({ cls := "CommitDesk$Transaction", name := "mergeLastPart", desc := "()V" } : Jvm.MethodName) ({ cls := "CommitDesk$Transaction", name := "mergeLastPart", desc := "()V" } : Jvm.MethodName)),
  (Jvm.Cond.code ({ cls := "CommitDesk$Transaction", name := "mergeLastPart", desc := "()V" } : Jvm.MethodName) prog_2_method_16_code (3 : Nat) (Option.none : Option Jvm.ClassFile.FieldType)),
  (Jvm.Cond.methodLink "CommitDesk$Transaction" (48 : Nat) ({ cls := "CommitDesk$Transaction", name := "dropLastPart", desc := "()V" } : Jvm.MethodName)),
  (Jvm.Cond.methodLink "CommitDeskLaw" (98 : Nat) ({ cls := "CommitDeskLaw", name := "done", desc := "(LCommitDesk;I[J)I" } : Jvm.MethodName)),
  (Jvm.Cond.static ({ cls := "CommitDeskLaw", name := "done", desc := "(LCommitDesk;I[J)I" } : Jvm.MethodName)),
  (Jvm.Cond.codeWith ({ cls := "CommitDeskLaw", name := "done", desc := "(LCommitDesk;I[J)I" } : Jvm.MethodName) method_9_code (4 : Nat) (Option.some Jvm.ClassFile.FieldType.int) [((0 : Nat), (16 : Nat), (19 : Nat), (13 : Nat)), ((0 : Nat), (16 : Nat), (22 : Nat), (15 : Nat))]),
  (Jvm.Cond.methodLink "CommitDeskLaw" (39 : Nat) ({ cls := "CommitDesk", name := "done", desc := "(I)Z" } : Jvm.MethodName))]
def BIG_7 : List Cond := [(Jvm.Cond.instanceMethod ({ cls := "CommitDesk", name := "done", desc := "(I)Z" } : Jvm.MethodName)),
  (Jvm.Cond.selects "CommitDesk" ({ cls := "CommitDesk", name := "done", desc := "(I)Z" } : Jvm.MethodName) ({ cls := "CommitDesk", name := "done", desc := "(I)Z" } : Jvm.MethodName)),
  (Jvm.Cond.code ({ cls := "CommitDesk", name := "done", desc := "(I)Z" } : Jvm.MethodName) prog_1_method_8_code (5 : Nat) (Option.some Jvm.ClassFile.FieldType.boolean)),
  (Jvm.Cond.methodLink "CommitDesk" (105 : Nat) ({ cls := "CommitDesk", name := "change", desc := "(IJ)V" } : Jvm.MethodName)),
  (Jvm.Cond.instanceMethod ({ cls := "CommitDesk", name := "change", desc := "(IJ)V" } : Jvm.MethodName)),
  (Jvm.Cond.code ({ cls := "CommitDesk", name := "change", desc := "(IJ)V" } : Jvm.MethodName) prog_1_method_21_code (5 : Nat) (Option.none : Option Jvm.ClassFile.FieldType)),
  (Jvm.Cond.methodLink "CommitDesk" (136 : Nat) ({ cls := "CommitDesk$Transaction", name := "noteChange", desc := "(I)V" } : Jvm.MethodName)),
  (Jvm.Cond.instanceMethod ({ cls := "CommitDesk$Transaction", name := "noteChange", desc := "(I)V" } : Jvm.MethodName)),
  (Jvm.Cond.selects "CommitDesk$Transaction" ({ cls := "CommitDesk$Transaction", name := "noteChange", desc := "(I)V" } : Jvm.MethodName) ({ cls := "CommitDesk$Transaction", name := "noteChange", desc := "(I)V" } : Jvm.MethodName)),
  (Jvm.Cond.code ({ cls := "CommitDesk$Transaction", name := "noteChange", desc := "(I)V" } : Jvm.MethodName) prog_2_method_10_code (2 : Nat) (Option.none : Option Jvm.ClassFile.FieldType)),
  (Jvm.Cond.methodLink "CommitDeskLaw" (101 : Nat) ({ cls := "CommitDeskLaw", name := "leave", desc := "(LCommitDesk;I)I" } : Jvm.MethodName)),
  (Jvm.Cond.static ({ cls := "CommitDeskLaw", name := "leave", desc := "(LCommitDesk;I)I" } : Jvm.MethodName)),
  (Jvm.Cond.codeWith ({ cls := "CommitDeskLaw", name := "leave", desc := "(LCommitDesk;I)I" } : Jvm.MethodName) method_10_code (3 : Nat) (Option.some Jvm.ClassFile.FieldType.int) [((0 : Nat), (5 : Nat), (8 : Nat), (13 : Nat)), ((0 : Nat), (5 : Nat), (11 : Nat), (15 : Nat))]),
  (Jvm.Cond.methodLink "CommitDeskLaw" (43 : Nat) ({ cls := "CommitDesk", name := "leave", desc := "(I)V" } : Jvm.MethodName)),
  (Jvm.Cond.instanceMethod ({ cls := "CommitDesk", name := "leave", desc := "(I)V" } : Jvm.MethodName)),
  (Jvm.Cond.selects "CommitDesk" ({ cls := "CommitDesk", name := "leave", desc := "(I)V" } : Jvm.MethodName) ({ cls := "CommitDesk", name := "leave", desc := "(I)V" } : Jvm.MethodName)),
  (Jvm.Cond.code ({ cls := "CommitDesk", name := "leave", desc := "(I)V" } : Jvm.MethodName) prog_1_method_9_code (2 : Nat) (Option.none : Option Jvm.ClassFile.FieldType)),
  (Jvm.Cond.methodLink "CommitDeskLaw" (104 : Nat) ({ cls := "CommitDeskLaw", name := "set", desc := "(LCommitDesk;IJ)I" } : Jvm.MethodName)),
  (Jvm.Cond.static ({ cls := "CommitDeskLaw", name := "set", desc := "(LCommitDesk;IJ)I" } : Jvm.MethodName)),
  (Jvm.Cond.codeWith ({ cls := "CommitDeskLaw", name := "set", desc := "(LCommitDesk;IJ)I" } : Jvm.MethodName) method_11_code (5 : Nat) (Option.some Jvm.ClassFile.FieldType.int) [((0 : Nat), (6 : Nat), (9 : Nat), (21 : Nat))]),
  (Jvm.Cond.methodLink "CommitDeskLaw" (46 : Nat) ({ cls := "CommitDesk", name := "set", desc := "(IJ)V" } : Jvm.MethodName)),
  (Jvm.Cond.instanceMethod ({ cls := "CommitDesk", name := "set", desc := "(IJ)V" } : Jvm.MethodName)),
  (Jvm.Cond.selects "CommitDesk" ({ cls := "CommitDesk", name := "set", desc := "(IJ)V" } : Jvm.MethodName) ({ cls := "CommitDesk", name := "set", desc := "(IJ)V" } : Jvm.MethodName)),
  (Jvm.Cond.code ({ cls := "CommitDesk", name := "set", desc := "(IJ)V" } : Jvm.MethodName) prog_1_method_10_code (4 : Nat) (Option.none : Option Jvm.ClassFile.FieldType)),
  (Jvm.Cond.methodLink "CommitDeskLaw" (108 : Nat) ({ cls := "CommitDeskLaw", name := "cell", desc := "(LCommitDesk;I[J)I" } : Jvm.MethodName)),
  (Jvm.Cond.static ({ cls := "CommitDeskLaw", name := "cell", desc := "(LCommitDesk;I[J)I" } : Jvm.MethodName)),
  (Jvm.Cond.codeWith ({ cls := "CommitDeskLaw", name := "cell", desc := "(LCommitDesk;I[J)I" } : Jvm.MethodName) method_12_code (4 : Nat) (Option.some Jvm.ClassFile.FieldType.int) [((0 : Nat), (8 : Nat), (11 : Nat), (21 : Nat))]),
  (Jvm.Cond.methodLink "CommitDeskLaw" (50 : Nat) ({ cls := "CommitDesk", name := "cell", desc := "(I)J" } : Jvm.MethodName)),
  (Jvm.Cond.instanceMethod ({ cls := "CommitDesk", name := "cell", desc := "(I)J" } : Jvm.MethodName)),
  (Jvm.Cond.selects "CommitDesk" ({ cls := "CommitDesk", name := "cell", desc := "(I)J" } : Jvm.MethodName) ({ cls := "CommitDesk", name := "cell", desc := "(I)J" } : Jvm.MethodName)),
  (Jvm.Cond.code ({ cls := "CommitDesk", name := "cell", desc := "(I)J" } : Jvm.MethodName) prog_1_method_11_code (2 : Nat) (Option.some Jvm.ClassFile.FieldType.long)),
  (Jvm.Cond.methodLink "CommitDeskLaw" (111 : Nat) ({ cls := "CommitDeskLaw", name := "changed", desc := "(LCommitDesk;I[J)I" } : Jvm.MethodName)),
  (Jvm.Cond.static ({ cls := "CommitDeskLaw", name := "changed", desc := "(LCommitDesk;I[J)I" } : Jvm.MethodName)),
  (Jvm.Cond.codeWith ({ cls := "CommitDeskLaw", name := "changed", desc := "(LCommitDesk;I[J)I" } : Jvm.MethodName) method_13_code (4 : Nat) (Option.some Jvm.ClassFile.FieldType.int) [((0 : Nat), (9 : Nat), (12 : Nat), (21 : Nat))]),
  (Jvm.Cond.methodLink "CommitDeskLaw" (54 : Nat) ({ cls := "CommitDesk", name := "changed", desc := "(I)I" } : Jvm.MethodName)),
  (Jvm.Cond.instanceMethod ({ cls := "CommitDesk", name := "changed", desc := "(I)I" } : Jvm.MethodName)),
  (Jvm.Cond.selects "CommitDesk" ({ cls := "CommitDesk", name := "changed", desc := "(I)I" } : Jvm.MethodName) ({ cls := "CommitDesk", name := "changed", desc := "(I)I" } : Jvm.MethodName)),
  (Jvm.Cond.code ({ cls := "CommitDesk", name := "changed", desc := "(I)I" } : Jvm.MethodName) prog_1_method_12_code (2 : Nat) (Option.some Jvm.ClassFile.FieldType.int)),
  (Jvm.Cond.methodLink "CommitDeskLaw" (114 : Nat) ({ cls := "CommitDeskLaw", name := "count", desc := "(LCommitDesk;II[J)I" } : Jvm.MethodName)),
  (Jvm.Cond.static ({ cls := "CommitDeskLaw", name := "count", desc := "(LCommitDesk;II[J)I" } : Jvm.MethodName))]
def BIG_8 : List Cond := [(Jvm.Cond.codeWith ({ cls := "CommitDeskLaw", name := "count", desc := "(LCommitDesk;II[J)I" } : Jvm.MethodName) method_14_code (5 : Nat) (Option.some Jvm.ClassFile.FieldType.int) [((0 : Nat), (10 : Nat), (13 : Nat), (13 : Nat)), ((0 : Nat), (10 : Nat), (17 : Nat), (15 : Nat))]),
  (Jvm.Cond.methodLink "CommitDeskLaw" (57 : Nat) ({ cls := "CommitDesk", name := "count", desc := "(II)I" } : Jvm.MethodName)),
  (Jvm.Cond.instanceMethod ({ cls := "CommitDesk", name := "count", desc := "(II)I" } : Jvm.MethodName)),
  (Jvm.Cond.selects "CommitDesk" ({ cls := "CommitDesk", name := "count", desc := "(II)I" } : Jvm.MethodName) ({ cls := "CommitDesk", name := "count", desc := "(II)I" } : Jvm.MethodName)),
  (Jvm.Cond.code ({ cls := "CommitDesk", name := "count", desc := "(II)I" } : Jvm.MethodName) prog_1_method_13_code (4 : Nat) (Option.some Jvm.ClassFile.FieldType.int)),
  (Jvm.Cond.methodLink "CommitDesk" (116 : Nat) ({ cls := "CommitDesk$Transaction", name := "readCount", desc := "()I" } : Jvm.MethodName)),
  (Jvm.Cond.instanceMethod ({ cls := "CommitDesk$Transaction", name := "readCount", desc := "()I" } : Jvm.MethodName)),
  (Jvm.Cond.selects "CommitDesk$Transaction" ({ cls := "CommitDesk$Transaction", name := "readCount", desc := "()I" } : Jvm.MethodName) ({ cls := "CommitDesk$Transaction", name := "readCount", desc := "()I" } : Jvm.MethodName)),
  (Jvm.Cond.code ({ cls := "CommitDesk$Transaction", name := "readCount", desc := "()I" } : Jvm.MethodName) prog_2_method_5_code (1 : Nat) (Option.some Jvm.ClassFile.FieldType.int)),
  (Jvm.Cond.methodLink "CommitDesk$Transaction" (34 : Nat) ({ cls := "java/lang/Integer", name := "bitCount", desc := "(I)I" } : Jvm.MethodName)),
  (Jvm.Cond.static ({ cls := "java/lang/Integer", name := "bitCount", desc := "(I)I" } : Jvm.MethodName)),
  (Jvm.Cond.code ({ cls := "java/lang/Integer", name := "bitCount", desc := "(I)I" } : Jvm.MethodName) prog_9_method_49_code (1 : Nat) (Option.some Jvm.ClassFile.FieldType.int)),
  (Jvm.Cond.constant "java/lang/Integer" (265 : Nat) (1431655765 : Int32)),
  (Jvm.Cond.constant "java/lang/Integer" (266 : Nat) (858993459 : Int32)),
  (Jvm.Cond.constant "java/lang/Integer" (267 : Nat) (252645135 : Int32)),
  (Jvm.Cond.methodLink "CommitDesk" (119 : Nat) ({ cls := "CommitDesk$Transaction", name := "writtenCount", desc := "()I" } : Jvm.MethodName)),
  (Jvm.Cond.instanceMethod ({ cls := "CommitDesk$Transaction", name := "writtenCount", desc := "()I" } : Jvm.MethodName)),
  (Jvm.Cond.selects "CommitDesk$Transaction" ({ cls := "CommitDesk$Transaction", name := "writtenCount", desc := "()I" } : Jvm.MethodName) ({ cls := "CommitDesk$Transaction", name := "writtenCount", desc := "()I" } : Jvm.MethodName)),
  (Jvm.Cond.code ({ cls := "CommitDesk$Transaction", name := "writtenCount", desc := "()I" } : Jvm.MethodName) prog_2_method_6_code (3 : Nat) (Option.some Jvm.ClassFile.FieldType.int)),
  (Jvm.Cond.methodLink "CommitDeskLaw" (117 : Nat) ({ cls := "CommitDeskLaw", name := "all", desc := "(LCommitDesk;I[J)I" } : Jvm.MethodName)),
  (Jvm.Cond.static ({ cls := "CommitDeskLaw", name := "all", desc := "(LCommitDesk;I[J)I" } : Jvm.MethodName)),
  (Jvm.Cond.codeWith ({ cls := "CommitDeskLaw", name := "all", desc := "(LCommitDesk;I[J)I" } : Jvm.MethodName) method_15_code (4 : Nat) (Option.some Jvm.ClassFile.FieldType.int) [((0 : Nat), (9 : Nat), (12 : Nat), (13 : Nat))]),
  (Jvm.Cond.methodLink "CommitDeskLaw" (61 : Nat) ({ cls := "CommitDesk", name := "all", desc := "(I)I" } : Jvm.MethodName)),
  (Jvm.Cond.instanceMethod ({ cls := "CommitDesk", name := "all", desc := "(I)I" } : Jvm.MethodName)),
  (Jvm.Cond.selects "CommitDesk" ({ cls := "CommitDesk", name := "all", desc := "(I)I" } : Jvm.MethodName) ({ cls := "CommitDesk", name := "all", desc := "(I)I" } : Jvm.MethodName)),
  (Jvm.Cond.code ({ cls := "CommitDesk", name := "all", desc := "(I)I" } : Jvm.MethodName) prog_1_method_14_code (2 : Nat) (Option.some Jvm.ClassFile.FieldType.int)),
  (Jvm.Cond.methodLink "CommitDesk" (122 : Nat) ({ cls := "CommitDesk", name := "openTotal", desc := "()I" } : Jvm.MethodName)),
  (Jvm.Cond.instanceMethod ({ cls := "CommitDesk", name := "openTotal", desc := "()I" } : Jvm.MethodName)),
  (Jvm.Cond.code ({ cls := "CommitDesk", name := "openTotal", desc := "()I" } : Jvm.MethodName) prog_1_method_22_code (3 : Nat) (Option.some Jvm.ClassFile.FieldType.int)),
  (Jvm.Cond.classLink "CommitDeskLaw" (65 : Nat) "CommitDeskModel"),
  (Jvm.Cond.instantiable "CommitDeskModel" (11 : Nat)),
  (Jvm.Cond.methodLink "CommitDeskLaw" (67 : Nat) ({ cls := "CommitDeskModel", name := "<init>", desc := "()V" } : Jvm.MethodName)),
  (Jvm.Cond.instanceMethod ({ cls := "CommitDeskModel", name := "<init>", desc := "()V" } : Jvm.MethodName)),
  (Jvm.Cond.code ({ cls := "CommitDeskModel", name := "<init>", desc := "()V" } : Jvm.MethodName) prog_4_method_1_code (1 : Nat) (Option.none : Option Jvm.ClassFile.FieldType)),
  (Jvm.Cond.methodLink "CommitDeskModel" (1 : Nat) ({ cls := "java/lang/Object", name := "<init>", desc := "()V" } : Jvm.MethodName)),
  (Jvm.Cond.fieldLink "CommitDeskModel" (36 : Nat) "CommitDeskModel" "err" "I"),
  (Jvm.Cond.fieldLink "CommitDeskModel" (9 : Nat) "CommitDeskModel" "cells" "[J"),
  (Jvm.Cond.fieldLink "CommitDeskModel" (13 : Nat) "CommitDeskModel" "wrote" "[J"),
  (Jvm.Cond.fieldLink "CommitDeskModel" (16 : Nat) "CommitDeskModel" "changes" "[I"),
  (Jvm.Cond.fieldLink "CommitDeskModel" (20 : Nat) "CommitDeskModel" "parts" "[I")]
def BIG_9 : List Cond := [(Jvm.Cond.fieldLink "CommitDeskModel" (23 : Nat) "CommitDeskModel" "seen" "[I"),
  (Jvm.Cond.fieldLink "CommitDeskModel" (26 : Nat) "CommitDeskModel" "has" "[Z"),
  (Jvm.Cond.fieldLink "CommitDeskModel" (30 : Nat) "CommitDeskModel" "read" "[Z"),
  (Jvm.Cond.fieldLink "CommitDeskModel" (33 : Nat) "CommitDeskModel" "open" "[Z"),
  (Jvm.Cond.fieldLink "CommitDeskModel" (77 : Nat) "CommitDeskModel" "done" "I"),
  (Jvm.Cond.fieldLink "CommitDeskModel" (66 : Nat) "CommitDeskModel" "stale" "I"),
  (Jvm.Cond.lays "CommitDeskModel" "CommitDeskModel" "err" "I"),
  (Jvm.Cond.laysFinal "CommitDeskModel" "CommitDeskModel" "cells" "[J"),
  (Jvm.Cond.laysFinal "CommitDeskModel" "CommitDeskModel" "wrote" "[J"),
  (Jvm.Cond.laysFinal "CommitDeskModel" "CommitDeskModel" "changes" "[I"),
  (Jvm.Cond.laysFinal "CommitDeskModel" "CommitDeskModel" "parts" "[I"),
  (Jvm.Cond.laysFinal "CommitDeskModel" "CommitDeskModel" "seen" "[I"),
  (Jvm.Cond.laysFinal "CommitDeskModel" "CommitDeskModel" "has" "[Z"),
  (Jvm.Cond.laysFinal "CommitDeskModel" "CommitDeskModel" "read" "[Z"),
  (Jvm.Cond.laysFinal "CommitDeskModel" "CommitDeskModel" "open" "[Z"),
  (Jvm.Cond.lays "CommitDeskModel" "CommitDeskModel" "done" "I"),
  (Jvm.Cond.lays "CommitDeskModel" "CommitDeskModel" "stale" "I"),
  (Jvm.Cond.superclass "CommitDeskModel" "java/lang/Object"),
  (Jvm.Cond.arrayClass Jvm.ClassFile.FieldType.boolean),
  (Jvm.Cond.methodLink "CommitDeskLaw" (74 : Nat) ({ cls := "CommitDeskModel", name := "thrown", desc := "()I" } : Jvm.MethodName)),
  (Jvm.Cond.instanceMethod ({ cls := "CommitDeskModel", name := "thrown", desc := "()I" } : Jvm.MethodName)),
  (Jvm.Cond.selects "CommitDeskModel" ({ cls := "CommitDeskModel", name := "thrown", desc := "()I" } : Jvm.MethodName) ({ cls := "CommitDeskModel", name := "thrown", desc := "()I" } : Jvm.MethodName)),
  (Jvm.Cond.code ({ cls := "CommitDeskModel", name := "thrown", desc := "()I" } : Jvm.MethodName) prog_4_method_2_code (1 : Nat) (Option.some Jvm.ClassFile.FieldType.int)),
  (Jvm.Cond.methodLink "CommitDeskLaw" (73 : Nat) ({ cls := "CommitDeskModel", name := "begin", desc := "(I)V" } : Jvm.MethodName)),
  (Jvm.Cond.instanceMethod ({ cls := "CommitDeskModel", name := "begin", desc := "(I)V" } : Jvm.MethodName)),
  (Jvm.Cond.selects "CommitDeskModel" ({ cls := "CommitDeskModel", name := "begin", desc := "(I)V" } : Jvm.MethodName) ({ cls := "CommitDeskModel", name := "begin", desc := "(I)V" } : Jvm.MethodName)),
  (Jvm.Cond.code ({ cls := "CommitDeskModel", name := "begin", desc := "(I)V" } : Jvm.MethodName) prog_4_method_10_code (3 : Nat) (Option.none : Option Jvm.ClassFile.FieldType)),
  (Jvm.Cond.methodLink "CommitDeskModel" (48 : Nat) ({ cls := "CommitDeskModel", name := "isOne", desc := "(I)Z" } : Jvm.MethodName)),
  (Jvm.Cond.static ({ cls := "CommitDeskModel", name := "isOne", desc := "(I)Z" } : Jvm.MethodName)),
  (Jvm.Cond.code ({ cls := "CommitDeskModel", name := "isOne", desc := "(I)Z" } : Jvm.MethodName) prog_4_method_5_code (1 : Nat) (Option.some Jvm.ClassFile.FieldType.boolean)),
  (Jvm.Cond.constantLong "CommitDeskModel" (40 : Nat) (7 : Int64)),
  (Jvm.Cond.methodLink "CommitDeskModel" (42 : Nat) ({ cls := "CommitDeskModel", name := "in", desc := "(JJJ)Z" } : Jvm.MethodName)),
  (Jvm.Cond.static ({ cls := "CommitDeskModel", name := "in", desc := "(JJJ)Z" } : Jvm.MethodName)),
  (Jvm.Cond.code ({ cls := "CommitDeskModel", name := "in", desc := "(JJJ)Z" } : Jvm.MethodName) prog_4_method_3_code (6 : Nat) (Option.some Jvm.ClassFile.FieldType.boolean)),
  (Jvm.Cond.methodLink "CommitDeskModel" (52 : Nat) ({ cls := "CommitDeskModel", name := "fails", desc := "(ZI)Z" } : Jvm.MethodName)),
  (Jvm.Cond.instanceMethod ({ cls := "CommitDeskModel", name := "fails", desc := "(ZI)Z" } : Jvm.MethodName)),
  (Jvm.Cond.code ({ cls := "CommitDeskModel", name := "fails", desc := "(ZI)Z" } : Jvm.MethodName) prog_4_method_4_code (3 : Nat) (Option.some Jvm.ClassFile.FieldType.boolean)),
  (Jvm.Cond.methodLink "CommitDeskModel" (56 : Nat) ({ cls := "CommitDeskModel", name := "last", desc := "(II)I" } : Jvm.MethodName)),
  (Jvm.Cond.instanceMethod ({ cls := "CommitDeskModel", name := "last", desc := "(II)I" } : Jvm.MethodName)),
  (Jvm.Cond.code ({ cls := "CommitDeskModel", name := "last", desc := "(II)I" } : Jvm.MethodName) prog_4_method_7_code (3 : Nat) (Option.some Jvm.ClassFile.FieldType.int))]
def BIG_10 : List Cond := [(Jvm.Cond.methodLink "CommitDeskLaw" (81 : Nat) ({ cls := "CommitDeskModel", name := "read", desc := "(II)J" } : Jvm.MethodName)),
  (Jvm.Cond.instanceMethod ({ cls := "CommitDeskModel", name := "read", desc := "(II)J" } : Jvm.MethodName)),
  (Jvm.Cond.selects "CommitDeskModel" ({ cls := "CommitDeskModel", name := "read", desc := "(II)J" } : Jvm.MethodName) ({ cls := "CommitDeskModel", name := "read", desc := "(II)J" } : Jvm.MethodName)),
  (Jvm.Cond.code ({ cls := "CommitDeskModel", name := "read", desc := "(II)J" } : Jvm.MethodName) prog_4_method_11_code (3 : Nat) (Option.some Jvm.ClassFile.FieldType.long)),
  (Jvm.Cond.methodLink "CommitDeskModel" (60 : Nat) ({ cls := "CommitDeskModel", name := "isCell", desc := "(I)Z" } : Jvm.MethodName)),
  (Jvm.Cond.static ({ cls := "CommitDeskModel", name := "isCell", desc := "(I)Z" } : Jvm.MethodName)),
  (Jvm.Cond.code ({ cls := "CommitDeskModel", name := "isCell", desc := "(I)Z" } : Jvm.MethodName) prog_4_method_6_code (1 : Nat) (Option.some Jvm.ClassFile.FieldType.boolean)),
  (Jvm.Cond.constantLong "CommitDeskModel" (46 : Nat) (31 : Int64)),
  (Jvm.Cond.methodLink "CommitDeskModel" (63 : Nat) ({ cls := "CommitDeskModel", name := "isStale", desc := "(I)Z" } : Jvm.MethodName)),
  (Jvm.Cond.instanceMethod ({ cls := "CommitDeskModel", name := "isStale", desc := "(I)Z" } : Jvm.MethodName)),
  (Jvm.Cond.code ({ cls := "CommitDeskModel", name := "isStale", desc := "(I)Z" } : Jvm.MethodName) prog_4_method_8_code (3 : Nat) (Option.some Jvm.ClassFile.FieldType.boolean)),
  (Jvm.Cond.methodLink "CommitDeskLaw" (87 : Nat) ({ cls := "CommitDeskModel", name := "write", desc := "(IIJ)V" } : Jvm.MethodName)),
  (Jvm.Cond.instanceMethod ({ cls := "CommitDeskModel", name := "write", desc := "(IIJ)V" } : Jvm.MethodName)),
  (Jvm.Cond.selects "CommitDeskModel" ({ cls := "CommitDeskModel", name := "write", desc := "(IIJ)V" } : Jvm.MethodName) ({ cls := "CommitDeskModel", name := "write", desc := "(IIJ)V" } : Jvm.MethodName)),
  (Jvm.Cond.code ({ cls := "CommitDeskModel", name := "write", desc := "(IIJ)V" } : Jvm.MethodName) prog_4_method_12_code (5 : Nat) (Option.none : Option Jvm.ClassFile.FieldType)),
  (Jvm.Cond.methodLink "CommitDeskLaw" (91 : Nat) ({ cls := "CommitDeskModel", name := "save", desc := "(I)I" } : Jvm.MethodName)),
  (Jvm.Cond.instanceMethod ({ cls := "CommitDeskModel", name := "save", desc := "(I)I" } : Jvm.MethodName)),
  (Jvm.Cond.selects "CommitDeskModel" ({ cls := "CommitDeskModel", name := "save", desc := "(I)I" } : Jvm.MethodName) ({ cls := "CommitDeskModel", name := "save", desc := "(I)I" } : Jvm.MethodName)),
  (Jvm.Cond.code ({ cls := "CommitDeskModel", name := "save", desc := "(I)I" } : Jvm.MethodName) prog_4_method_14_code (2 : Nat) (Option.some Jvm.ClassFile.FieldType.int)),
  (Jvm.Cond.methodLink "CommitDeskModel" (69 : Nat) ({ cls := "CommitDeskModel", name := "copy", desc := "(II)V" } : Jvm.MethodName)),
  (Jvm.Cond.instanceMethod ({ cls := "CommitDeskModel", name := "copy", desc := "(II)V" } : Jvm.MethodName)),
  (Jvm.Cond.code ({ cls := "CommitDeskModel", name := "copy", desc := "(II)V" } : Jvm.MethodName) prog_4_method_13_code (4 : Nat) (Option.none : Option Jvm.ClassFile.FieldType)),
  (Jvm.Cond.methodLink "CommitDeskLaw" (94 : Nat) ({ cls := "CommitDeskModel", name := "back", desc := "(I)V" } : Jvm.MethodName)),
  (Jvm.Cond.instanceMethod ({ cls := "CommitDeskModel", name := "back", desc := "(I)V" } : Jvm.MethodName)),
  (Jvm.Cond.selects "CommitDeskModel" ({ cls := "CommitDeskModel", name := "back", desc := "(I)V" } : Jvm.MethodName) ({ cls := "CommitDeskModel", name := "back", desc := "(I)V" } : Jvm.MethodName)),
  (Jvm.Cond.code ({ cls := "CommitDeskModel", name := "back", desc := "(I)V" } : Jvm.MethodName) prog_4_method_15_code (2 : Nat) (Option.none : Option Jvm.ClassFile.FieldType)),
  (Jvm.Cond.methodLink "CommitDeskLaw" (97 : Nat) ({ cls := "CommitDeskModel", name := "keep", desc := "(I)V" } : Jvm.MethodName)),
  (Jvm.Cond.instanceMethod ({ cls := "CommitDeskModel", name := "keep", desc := "(I)V" } : Jvm.MethodName)),
  (Jvm.Cond.selects "CommitDeskModel" ({ cls := "CommitDeskModel", name := "keep", desc := "(I)V" } : Jvm.MethodName) ({ cls := "CommitDeskModel", name := "keep", desc := "(I)V" } : Jvm.MethodName)),
  (Jvm.Cond.code ({ cls := "CommitDeskModel", name := "keep", desc := "(I)V" } : Jvm.MethodName) prog_4_method_16_code (2 : Nat) (Option.none : Option Jvm.ClassFile.FieldType)),
  (Jvm.Cond.methodLink "CommitDeskLaw" (100 : Nat) ({ cls := "CommitDeskModel", name := "done", desc := "(I)Z" } : Jvm.MethodName)),
  (Jvm.Cond.instanceMethod ({ cls := "CommitDeskModel", name := "done", desc := "(I)Z" } : Jvm.MethodName)),
  (Jvm.Cond.selects "CommitDeskModel" ({ cls := "CommitDeskModel", name := "done", desc := "(I)Z" } : Jvm.MethodName) ({ cls := "CommitDeskModel", name := "done", desc := "(I)Z" } : Jvm.MethodName)),
  (Jvm.Cond.code ({ cls := "CommitDeskModel", name := "done", desc := "(I)Z" } : Jvm.MethodName) prog_4_method_17_code (3 : Nat) (Option.some Jvm.ClassFile.FieldType.boolean)),
  (Jvm.Cond.methodLink "CommitDeskModel" (73 : Nat) ({ cls := "CommitDeskModel", name := "change", desc := "(IJ)V" } : Jvm.MethodName)),
  (Jvm.Cond.instanceMethod ({ cls := "CommitDeskModel", name := "change", desc := "(IJ)V" } : Jvm.MethodName)),
  (Jvm.Cond.code ({ cls := "CommitDeskModel", name := "change", desc := "(IJ)V" } : Jvm.MethodName) prog_4_method_9_code (4 : Nat) (Option.none : Option Jvm.ClassFile.FieldType)),
  (Jvm.Cond.methodLink "CommitDeskLaw" (103 : Nat) ({ cls := "CommitDeskModel", name := "leave", desc := "(I)V" } : Jvm.MethodName)),
  (Jvm.Cond.instanceMethod ({ cls := "CommitDeskModel", name := "leave", desc := "(I)V" } : Jvm.MethodName)),
  (Jvm.Cond.selects "CommitDeskModel" ({ cls := "CommitDeskModel", name := "leave", desc := "(I)V" } : Jvm.MethodName) ({ cls := "CommitDeskModel", name := "leave", desc := "(I)V" } : Jvm.MethodName))]
def BIG_11 : List Cond := [(Jvm.Cond.code ({ cls := "CommitDeskModel", name := "leave", desc := "(I)V" } : Jvm.MethodName) prog_4_method_18_code (2 : Nat) (Option.none : Option Jvm.ClassFile.FieldType)),
  (Jvm.Cond.methodLink "CommitDeskLaw" (107 : Nat) ({ cls := "CommitDeskModel", name := "set", desc := "(IJ)V" } : Jvm.MethodName)),
  (Jvm.Cond.instanceMethod ({ cls := "CommitDeskModel", name := "set", desc := "(IJ)V" } : Jvm.MethodName)),
  (Jvm.Cond.selects "CommitDeskModel" ({ cls := "CommitDeskModel", name := "set", desc := "(IJ)V" } : Jvm.MethodName) ({ cls := "CommitDeskModel", name := "set", desc := "(IJ)V" } : Jvm.MethodName)),
  (Jvm.Cond.code ({ cls := "CommitDeskModel", name := "set", desc := "(IJ)V" } : Jvm.MethodName) prog_4_method_19_code (4 : Nat) (Option.none : Option Jvm.ClassFile.FieldType)),
  (Jvm.Cond.methodLink "CommitDeskLaw" (110 : Nat) ({ cls := "CommitDeskModel", name := "cell", desc := "(I)J" } : Jvm.MethodName)),
  (Jvm.Cond.instanceMethod ({ cls := "CommitDeskModel", name := "cell", desc := "(I)J" } : Jvm.MethodName)),
  (Jvm.Cond.selects "CommitDeskModel" ({ cls := "CommitDeskModel", name := "cell", desc := "(I)J" } : Jvm.MethodName) ({ cls := "CommitDeskModel", name := "cell", desc := "(I)J" } : Jvm.MethodName)),
  (Jvm.Cond.code ({ cls := "CommitDeskModel", name := "cell", desc := "(I)J" } : Jvm.MethodName) prog_4_method_20_code (2 : Nat) (Option.some Jvm.ClassFile.FieldType.long)),
  (Jvm.Cond.methodLink "CommitDeskLaw" (113 : Nat) ({ cls := "CommitDeskModel", name := "changed", desc := "(I)I" } : Jvm.MethodName)),
  (Jvm.Cond.instanceMethod ({ cls := "CommitDeskModel", name := "changed", desc := "(I)I" } : Jvm.MethodName)),
  (Jvm.Cond.selects "CommitDeskModel" ({ cls := "CommitDeskModel", name := "changed", desc := "(I)I" } : Jvm.MethodName) ({ cls := "CommitDeskModel", name := "changed", desc := "(I)I" } : Jvm.MethodName)),
  (Jvm.Cond.code ({ cls := "CommitDeskModel", name := "changed", desc := "(I)I" } : Jvm.MethodName) prog_4_method_21_code (2 : Nat) (Option.some Jvm.ClassFile.FieldType.int)),
  (Jvm.Cond.methodLink "CommitDeskLaw" (116 : Nat) ({ cls := "CommitDeskModel", name := "count", desc := "(II)I" } : Jvm.MethodName)),
  (Jvm.Cond.instanceMethod ({ cls := "CommitDeskModel", name := "count", desc := "(II)I" } : Jvm.MethodName)),
  (Jvm.Cond.selects "CommitDeskModel" ({ cls := "CommitDeskModel", name := "count", desc := "(II)I" } : Jvm.MethodName) ({ cls := "CommitDeskModel", name := "count", desc := "(II)I" } : Jvm.MethodName)),
  (Jvm.Cond.code ({ cls := "CommitDeskModel", name := "count", desc := "(II)I" } : Jvm.MethodName) prog_4_method_22_code (5 : Nat) (Option.some Jvm.ClassFile.FieldType.int)),
  (Jvm.Cond.constantLong "CommitDeskModel" (80 : Nat) (3 : Int64)),
  (Jvm.Cond.methodLink "CommitDeskLaw" (119 : Nat) ({ cls := "CommitDeskModel", name := "all", desc := "(I)I" } : Jvm.MethodName)),
  (Jvm.Cond.instanceMethod ({ cls := "CommitDeskModel", name := "all", desc := "(I)I" } : Jvm.MethodName)),
  (Jvm.Cond.selects "CommitDeskModel" ({ cls := "CommitDeskModel", name := "all", desc := "(I)I" } : Jvm.MethodName) ({ cls := "CommitDeskModel", name := "all", desc := "(I)I" } : Jvm.MethodName)),
  (Jvm.Cond.code ({ cls := "CommitDeskModel", name := "all", desc := "(I)I" } : Jvm.MethodName) prog_4_method_23_code (4 : Nat) (Option.some Jvm.ClassFile.FieldType.int)),
  (Jvm.Cond.constantLong "CommitDeskModel" (82 : Nat) (2 : Int64)),
  (Jvm.Cond.constantLong "CommitDeskLaw" (82 : Nat) (4294967295 : Int64))]
def BIG : List Cond := BIG_0 ++ (BIG_1 ++ (BIG_2 ++ (BIG_3 ++ (BIG_4 ++ (BIG_5 ++ (BIG_6 ++ (BIG_7 ++ (BIG_8 ++ (BIG_9 ++ (BIG_10 ++ (BIG_11)))))))))))
theorem BIG_g0 : BIG_0.all goodWord = true := by decide +kernel
theorem BIG_g1 : BIG_1.all goodWord = true := by decide +kernel
theorem BIG_g2 : BIG_2.all goodWord = true := by decide +kernel
theorem BIG_g3 : BIG_3.all goodWord = true := by decide +kernel
theorem BIG_g4 : BIG_4.all goodWord = true := by decide +kernel
theorem BIG_g5 : BIG_5.all goodWord = true := by decide +kernel
theorem BIG_g6 : BIG_6.all goodWord = true := by decide +kernel
theorem BIG_g7 : BIG_7.all goodWord = true := by decide +kernel
theorem BIG_g8 : BIG_8.all goodWord = true := by decide +kernel
theorem BIG_g9 : BIG_9.all goodWord = true := by decide +kernel
theorem BIG_g10 : BIG_10.all goodWord = true := by decide +kernel
theorem BIG_g11 : BIG_11.all goodWord = true := by decide +kernel
theorem bw_0 : (Jvm.Cond.selects "CommitDesk" ({ cls := "CommitDesk", name := "transactionOf", desc := "(I)LCommitDesk$Transaction;" } : Jvm.MethodName) ({ cls := "CommitDesk", name := "transactionOf", desc := "(I)LCommitDesk$Transaction;" } : Jvm.MethodName)) ∈ BIG := List.mem_append_left _ (List.mem_of_getElem? (i := 0) rfl)
theorem bw_1 : (Jvm.Cond.selects "java/lang/Throwable" ({ cls := "java/lang/Throwable", name := "fillInStackTrace", desc := "(I)Ljava/lang/Throwable;" } : Jvm.MethodName) ({ cls := "java/lang/Throwable", name := "fillInStackTrace", desc := "(I)Ljava/lang/Throwable;" } : Jvm.MethodName)) ∈ BIG := List.mem_append_left _ (List.mem_of_getElem? (i := 1) rfl)
theorem bw_2 : (Jvm.Cond.selects "CommitDesk" ({ cls := "CommitDesk", name := "openTransactionAt", desc := "(II)LCommitDesk$Transaction;" } : Jvm.MethodName) ({ cls := "CommitDesk", name := "openTransactionAt", desc := "(II)LCommitDesk$Transaction;" } : Jvm.MethodName)) ∈ BIG := List.mem_append_left _ (List.mem_of_getElem? (i := 2) rfl)
theorem bw_3 : (Jvm.Cond.selects "CommitDesk" ({ cls := "CommitDesk", name := "requireCell", desc := "(I)V" } : Jvm.MethodName) ({ cls := "CommitDesk", name := "requireCell", desc := "(I)V" } : Jvm.MethodName)) ∈ BIG := List.mem_append_left _ (List.mem_of_getElem? (i := 3) rfl)
theorem bw_4 : (Jvm.Cond.selects "CommitDesk" ({ cls := "CommitDesk", name := "openTransactionOf", desc := "(I)LCommitDesk$Transaction;" } : Jvm.MethodName) ({ cls := "CommitDesk", name := "openTransactionOf", desc := "(I)LCommitDesk$Transaction;" } : Jvm.MethodName)) ∈ BIG := List.mem_append_left _ (List.mem_of_getElem? (i := 4) rfl)
theorem bw_5 : (Jvm.Cond.selects "CommitDesk" ({ cls := "CommitDesk", name := "endStale", desc := "(LCommitDesk$Transaction;)V" } : Jvm.MethodName) ({ cls := "CommitDesk", name := "endStale", desc := "(LCommitDesk$Transaction;)V" } : Jvm.MethodName)) ∈ BIG := List.mem_append_left _ (List.mem_of_getElem? (i := 5) rfl)
theorem bw_6 : (Jvm.Cond.selects "CommitDesk$Transaction" ({ cls := "CommitDesk$Transaction", name := "putInPart", desc := "(IIJ)V" } : Jvm.MethodName) ({ cls := "CommitDesk$Transaction", name := "putInPart", desc := "(IIJ)V" } : Jvm.MethodName)) ∈ BIG := List.mem_append_left _ (List.mem_of_getElem? (i := 6) rfl)
theorem bw_7 : (Jvm.Cond.selects "CommitDesk" ({ cls := "CommitDesk", name := "transactionWithSeveralParts", desc := "(I)LCommitDesk$Transaction;" } : Jvm.MethodName) ({ cls := "CommitDesk", name := "transactionWithSeveralParts", desc := "(I)LCommitDesk$Transaction;" } : Jvm.MethodName)) ∈ BIG := List.mem_append_left _ (List.mem_of_getElem? (i := 7) rfl)
theorem bw_8 : (Jvm.Cond.selects "CommitDesk" ({ cls := "CommitDesk", name := "change", desc := "(IJ)V" } : Jvm.MethodName) ({ cls := "CommitDesk", name := "change", desc := "(IJ)V" } : Jvm.MethodName)) ∈ BIG := List.mem_append_left _ (List.mem_of_getElem? (i := 8) rfl)
theorem bw_9 : (Jvm.Cond.selects "CommitDesk" ({ cls := "CommitDesk", name := "openTotal", desc := "()I" } : Jvm.MethodName) ({ cls := "CommitDesk", name := "openTotal", desc := "()I" } : Jvm.MethodName)) ∈ BIG := List.mem_append_left _ (List.mem_of_getElem? (i := 9) rfl)
theorem bw_10 : (Jvm.Cond.selects "CommitDeskModel" ({ cls := "CommitDeskModel", name := "fails", desc := "(ZI)Z" } : Jvm.MethodName) ({ cls := "CommitDeskModel", name := "fails", desc := "(ZI)Z" } : Jvm.MethodName)) ∈ BIG := List.mem_append_left _ (List.mem_of_getElem? (i := 10) rfl)
theorem bw_11 : (Jvm.Cond.selects "CommitDeskModel" ({ cls := "CommitDeskModel", name := "last", desc := "(II)I" } : Jvm.MethodName) ({ cls := "CommitDeskModel", name := "last", desc := "(II)I" } : Jvm.MethodName)) ∈ BIG := List.mem_append_left _ (List.mem_of_getElem? (i := 11) rfl)
theorem bw_12 : (Jvm.Cond.selects "CommitDeskModel" ({ cls := "CommitDeskModel", name := "isStale", desc := "(I)Z" } : Jvm.MethodName) ({ cls := "CommitDeskModel", name := "isStale", desc := "(I)Z" } : Jvm.MethodName)) ∈ BIG := List.mem_append_left _ (List.mem_of_getElem? (i := 12) rfl)
theorem bw_13 : (Jvm.Cond.selects "CommitDeskModel" ({ cls := "CommitDeskModel", name := "copy", desc := "(II)V" } : Jvm.MethodName) ({ cls := "CommitDeskModel", name := "copy", desc := "(II)V" } : Jvm.MethodName)) ∈ BIG := List.mem_append_left _ (List.mem_of_getElem? (i := 13) rfl)
theorem bw_14 : (Jvm.Cond.selects "CommitDeskModel" ({ cls := "CommitDeskModel", name := "change", desc := "(IJ)V" } : Jvm.MethodName) ({ cls := "CommitDeskModel", name := "change", desc := "(IJ)V" } : Jvm.MethodName)) ∈ BIG := List.mem_append_left _ (List.mem_of_getElem? (i := 14) rfl)
theorem bw_15 : (Jvm.Cond.initialized "CommitDeskLaw") ∈ BIG := List.mem_append_left _ (List.mem_of_getElem? (i := 15) rfl)
theorem bw_16 : (Jvm.Cond.initialized "CommitDesk") ∈ BIG := List.mem_append_left _ (List.mem_of_getElem? (i := 16) rfl)
theorem bw_17 : (Jvm.Cond.initialized "CommitDesk$Transaction") ∈ BIG := List.mem_append_left _ (List.mem_of_getElem? (i := 17) rfl)
theorem bw_18 : (Jvm.Cond.initialized "CommitDeskModel") ∈ BIG := List.mem_append_left _ (List.mem_of_getElem? (i := 18) rfl)
theorem bw_19 : (Jvm.Cond.initialized "java/lang/Throwable") ∈ BIG := List.mem_append_left _ (List.mem_of_getElem? (i := 19) rfl)
theorem bw_20 : (Jvm.Cond.initialized "java/lang/Exception") ∈ BIG := List.mem_append_left _ (List.mem_of_getElem? (i := 20) rfl)
theorem bw_21 : (Jvm.Cond.initialized "java/lang/RuntimeException") ∈ BIG := List.mem_append_left _ (List.mem_of_getElem? (i := 21) rfl)
theorem bw_22 : (Jvm.Cond.initialized "java/lang/IllegalArgumentException") ∈ BIG := List.mem_append_left _ (List.mem_of_getElem? (i := 22) rfl)
theorem bw_23 : (Jvm.Cond.initialized "java/lang/IllegalStateException") ∈ BIG := List.mem_append_left _ (List.mem_of_getElem? (i := 23) rfl)
theorem bw_24 : (Jvm.Cond.initialized "java/lang/IndexOutOfBoundsException") ∈ BIG := List.mem_append_left _ (List.mem_of_getElem? (i := 24) rfl)
theorem bw_25 : (Jvm.Cond.initialized "java/lang/UnsupportedOperationException") ∈ BIG := List.mem_append_left _ (List.mem_of_getElem? (i := 25) rfl)
theorem bw_26 : (Jvm.Cond.initialized "java/lang/Integer") ∈ BIG := List.mem_append_left _ (List.mem_of_getElem? (i := 26) rfl)
theorem bw_27 : (Jvm.Cond.classLink "CommitDeskLaw" (8 : Nat) "CommitDesk") ∈ BIG := List.mem_append_left _ (List.mem_of_getElem? (i := 27) rfl)
theorem bw_28 : (Jvm.Cond.instantiable "CommitDesk" (5 : Nat)) ∈ BIG := List.mem_append_left _ (List.mem_of_getElem? (i := 28) rfl)
theorem bw_29 : (Jvm.Cond.methodLink "CommitDeskLaw" (64 : Nat) ({ cls := "CommitDesk", name := "<init>", desc := "()V" } : Jvm.MethodName)) ∈ BIG := List.mem_append_left _ (List.mem_of_getElem? (i := 29) rfl)
theorem bw_30 : (Jvm.Cond.instanceMethod ({ cls := "CommitDesk", name := "<init>", desc := "()V" } : Jvm.MethodName)) ∈ BIG := List.mem_append_left _ (List.mem_of_getElem? (i := 30) rfl)
theorem bw_31 : (Jvm.Cond.code ({ cls := "CommitDesk", name := "<init>", desc := "()V" } : Jvm.MethodName) prog_1_method_1_code (2 : Nat) (Option.none : Option Jvm.ClassFile.FieldType)) ∈ BIG := List.mem_append_left _ (List.mem_of_getElem? (i := 31) rfl)
theorem bw_32 : (Jvm.Cond.methodLink "CommitDesk" (1 : Nat) ({ cls := "java/lang/Object", name := "<init>", desc := "()V" } : Jvm.MethodName)) ∈ BIG := List.mem_append_left _ (List.mem_of_getElem? (i := 32) rfl)
theorem bw_33 : (Jvm.Cond.instanceMethod ({ cls := "java/lang/Object", name := "<init>", desc := "()V" } : Jvm.MethodName)) ∈ BIG := List.mem_append_left _ (List.mem_of_getElem? (i := 33) rfl)
theorem bw_34 : (Jvm.Cond.code ({ cls := "java/lang/Object", name := "<init>", desc := "()V" } : Jvm.MethodName) object_method_1_code (1 : Nat) (Option.none : Option Jvm.ClassFile.FieldType)) ∈ BIG := List.mem_append_left _ (List.mem_of_getElem? (i := 34) rfl)
theorem bw_35 : (Jvm.Cond.classLink "CommitDesk" (17 : Nat) "CommitDesk$Transaction") ∈ BIG := List.mem_append_left _ (List.mem_of_getElem? (i := 35) rfl)
theorem bw_36 : (Jvm.Cond.instantiable "CommitDesk$Transaction" (6 : Nat)) ∈ BIG := List.mem_append_left _ (List.mem_of_getElem? (i := 36) rfl)
theorem bw_37 : (Jvm.Cond.instanceMethod ({ cls := "CommitDesk$Transaction", name := "<init>", desc := "()V" } : Jvm.MethodName)) ∈ BIG := List.mem_append_left _ (List.mem_of_getElem? (i := 37) rfl)
theorem bw_38 : (Jvm.Cond.code ({ cls := "CommitDesk$Transaction", name := "<init>", desc := "()V" } : Jvm.MethodName) prog_2_method_1_code (1 : Nat) (Option.none : Option Jvm.ClassFile.FieldType)) ∈ BIG := List.mem_append_left _ (List.mem_of_getElem? (i := 38) rfl)
theorem bw_39 : (Jvm.Cond.methodLink "CommitDesk$Transaction" (3 : Nat) ({ cls := "java/lang/Object", name := "<init>", desc := "()V" } : Jvm.MethodName)) ∈ BIG := List.mem_append_left _ (List.mem_of_getElem? (i := 39) rfl)
theorem bw_40 : (Jvm.Cond.classLink "CommitDesk$Transaction" (29 : Nat) "[[J") ∈ BIG := List.mem_append_right _ (List.mem_append_left _ (List.mem_of_getElem? (i := 0) rfl))
theorem bw_41 : (Jvm.Cond.fieldLink "CommitDesk$Transaction" (9 : Nat) "CommitDesk$Transaction" "open" "Z") ∈ BIG := List.mem_append_right _ (List.mem_append_left _ (List.mem_of_getElem? (i := 1) rfl))
theorem bw_42 : (Jvm.Cond.fieldLink "CommitDesk$Transaction" (15 : Nat) "CommitDesk$Transaction" "stale" "Z") ∈ BIG := List.mem_append_right _ (List.mem_append_left _ (List.mem_of_getElem? (i := 2) rfl))
theorem bw_43 : (Jvm.Cond.fieldLink "CommitDesk$Transaction" (18 : Nat) "CommitDesk$Transaction" "readCells" "I") ∈ BIG := List.mem_append_right _ (List.mem_append_left _ (List.mem_of_getElem? (i := 3) rfl))
theorem bw_44 : (Jvm.Cond.fieldLink "CommitDesk$Transaction" (22 : Nat) "CommitDesk$Transaction" "parts" "I") ∈ BIG := List.mem_append_right _ (List.mem_append_left _ (List.mem_of_getElem? (i := 4) rfl))
theorem bw_45 : (Jvm.Cond.fieldLink "CommitDesk$Transaction" (25 : Nat) "CommitDesk$Transaction" "writtenCells" "[I") ∈ BIG := List.mem_append_right _ (List.mem_append_left _ (List.mem_of_getElem? (i := 5) rfl))
theorem bw_46 : (Jvm.Cond.fieldLink "CommitDesk$Transaction" (31 : Nat) "CommitDesk$Transaction" "values" "[[J") ∈ BIG := List.mem_append_right _ (List.mem_append_left _ (List.mem_of_getElem? (i := 6) rfl))
theorem bw_47 : (Jvm.Cond.lays "CommitDesk$Transaction" "CommitDesk$Transaction" "open" "Z") ∈ BIG := List.mem_append_right _ (List.mem_append_left _ (List.mem_of_getElem? (i := 7) rfl))
theorem bw_48 : (Jvm.Cond.lays "CommitDesk$Transaction" "CommitDesk$Transaction" "stale" "Z") ∈ BIG := List.mem_append_right _ (List.mem_append_left _ (List.mem_of_getElem? (i := 8) rfl))
theorem bw_49 : (Jvm.Cond.lays "CommitDesk$Transaction" "CommitDesk$Transaction" "readCells" "I") ∈ BIG := List.mem_append_right _ (List.mem_append_left _ (List.mem_of_getElem? (i := 9) rfl))
theorem bw_50 : (Jvm.Cond.lays "CommitDesk$Transaction" "CommitDesk$Transaction" "parts" "I") ∈ BIG := List.mem_append_right _ (List.mem_append_left _ (List.mem_of_getElem? (i := 10) rfl))
theorem bw_51 : (Jvm.Cond.laysFinal "CommitDesk$Transaction" "CommitDesk$Transaction" "writtenCells" "[I") ∈ BIG := List.mem_append_right _ (List.mem_append_left _ (List.mem_of_getElem? (i := 11) rfl))
theorem bw_52 : (Jvm.Cond.laysFinal "CommitDesk$Transaction" "CommitDesk$Transaction" "values" "[[J") ∈ BIG := List.mem_append_right _ (List.mem_append_left _ (List.mem_of_getElem? (i := 12) rfl))
theorem bw_53 : (Jvm.Cond.superclass "CommitDesk$Transaction" "java/lang/Object") ∈ BIG := List.mem_append_right _ (List.mem_append_left _ (List.mem_of_getElem? (i := 13) rfl))
theorem bw_54 : (Jvm.Cond.arrayClass Jvm.ClassFile.FieldType.long) ∈ BIG := List.mem_append_right _ (List.mem_append_left _ (List.mem_of_getElem? (i := 14) rfl))
theorem bw_55 : (Jvm.Cond.arrayClass Jvm.ClassFile.FieldType.int) ∈ BIG := List.mem_append_right _ (List.mem_append_left _ (List.mem_of_getElem? (i := 15) rfl))
theorem bw_56 : (Jvm.Cond.fieldLink "CommitDesk" (9 : Nat) "CommitDesk" "numbers" "[J") ∈ BIG := List.mem_append_right _ (List.mem_append_left _ (List.mem_of_getElem? (i := 16) rfl))
theorem bw_57 : (Jvm.Cond.fieldLink "CommitDesk" (13 : Nat) "CommitDesk" "changes" "[I") ∈ BIG := List.mem_append_right _ (List.mem_append_left _ (List.mem_of_getElem? (i := 17) rfl))
theorem bw_58 : (Jvm.Cond.fieldLink "CommitDesk" (19 : Nat) "CommitDesk" "transactions" "[LCommitDesk$Transaction;") ∈ BIG := List.mem_append_right _ (List.mem_append_left _ (List.mem_of_getElem? (i := 18) rfl))
theorem bw_59 : (Jvm.Cond.fieldLink "CommitDesk" (23 : Nat) "CommitDesk" "doneTotal" "I") ∈ BIG := List.mem_append_right _ (List.mem_append_left _ (List.mem_of_getElem? (i := 19) rfl))
theorem bw_60 : (Jvm.Cond.fieldLink "CommitDesk" (27 : Nat) "CommitDesk" "staleTotal" "I") ∈ BIG := List.mem_append_right _ (List.mem_append_left _ (List.mem_of_getElem? (i := 20) rfl))
theorem bw_61 : (Jvm.Cond.laysFinal "CommitDesk" "CommitDesk" "numbers" "[J") ∈ BIG := List.mem_append_right _ (List.mem_append_left _ (List.mem_of_getElem? (i := 21) rfl))
theorem bw_62 : (Jvm.Cond.laysFinal "CommitDesk" "CommitDesk" "changes" "[I") ∈ BIG := List.mem_append_right _ (List.mem_append_left _ (List.mem_of_getElem? (i := 22) rfl))
theorem bw_63 : (Jvm.Cond.laysFinal "CommitDesk" "CommitDesk" "transactions" "[LCommitDesk$Transaction;") ∈ BIG := List.mem_append_right _ (List.mem_append_left _ (List.mem_of_getElem? (i := 23) rfl))
theorem bw_64 : (Jvm.Cond.lays "CommitDesk" "CommitDesk" "doneTotal" "I") ∈ BIG := List.mem_append_right _ (List.mem_append_left _ (List.mem_of_getElem? (i := 24) rfl))
theorem bw_65 : (Jvm.Cond.lays "CommitDesk" "CommitDesk" "staleTotal" "I") ∈ BIG := List.mem_append_right _ (List.mem_append_left _ (List.mem_of_getElem? (i := 25) rfl))
theorem bw_66 : (Jvm.Cond.superclass "CommitDesk" "java/lang/Object") ∈ BIG := List.mem_append_right _ (List.mem_append_left _ (List.mem_of_getElem? (i := 26) rfl))
theorem bw_67 : (Jvm.Cond.methodLink "CommitDeskLaw" (68 : Nat) ({ cls := "CommitDeskLaw", name := "begin", desc := "(LCommitDesk;I)I" } : Jvm.MethodName)) ∈ BIG := List.mem_append_right _ (List.mem_append_left _ (List.mem_of_getElem? (i := 27) rfl))
theorem bw_68 : (Jvm.Cond.static ({ cls := "CommitDeskLaw", name := "begin", desc := "(LCommitDesk;I)I" } : Jvm.MethodName)) ∈ BIG := List.mem_append_right _ (List.mem_append_left _ (List.mem_of_getElem? (i := 28) rfl))
theorem bw_69 : (Jvm.Cond.codeWith ({ cls := "CommitDeskLaw", name := "begin", desc := "(LCommitDesk;I)I" } : Jvm.MethodName) method_3_code (3 : Nat) (Option.some Jvm.ClassFile.FieldType.int) [((0 : Nat), (5 : Nat), (8 : Nat), (13 : Nat)), ((0 : Nat), (5 : Nat), (11 : Nat), (15 : Nat))]) ∈ BIG := List.mem_append_right _ (List.mem_append_left _ (List.mem_of_getElem? (i := 29) rfl))
theorem bw_70 : (Jvm.Cond.classLink "CommitDeskLaw" (13 : Nat) "java/lang/IllegalArgumentException") ∈ BIG := List.mem_append_right _ (List.mem_append_left _ (List.mem_of_getElem? (i := 30) rfl))
theorem bw_71 : (Jvm.Cond.classLink "CommitDeskLaw" (15 : Nat) "java/lang/IllegalStateException") ∈ BIG := List.mem_append_right _ (List.mem_append_left _ (List.mem_of_getElem? (i := 31) rfl))
theorem bw_72 : (Jvm.Cond.methodLink "CommitDeskLaw" (7 : Nat) ({ cls := "CommitDesk", name := "begin", desc := "(I)V" } : Jvm.MethodName)) ∈ BIG := List.mem_append_right _ (List.mem_append_left _ (List.mem_of_getElem? (i := 32) rfl))
theorem bw_73 : (Jvm.Cond.instanceMethod ({ cls := "CommitDesk", name := "begin", desc := "(I)V" } : Jvm.MethodName)) ∈ BIG := List.mem_append_right _ (List.mem_append_left _ (List.mem_of_getElem? (i := 33) rfl))
theorem bw_74 : (Jvm.Cond.selects "CommitDesk" ({ cls := "CommitDesk", name := "begin", desc := "(I)V" } : Jvm.MethodName) ({ cls := "CommitDesk", name := "begin", desc := "(I)V" } : Jvm.MethodName)) ∈ BIG := List.mem_append_right _ (List.mem_append_left _ (List.mem_of_getElem? (i := 34) rfl))
theorem bw_75 : (Jvm.Cond.code ({ cls := "CommitDesk", name := "begin", desc := "(I)V" } : Jvm.MethodName) prog_1_method_2_code (3 : Nat) (Option.none : Option Jvm.ClassFile.FieldType)) ∈ BIG := List.mem_append_right _ (List.mem_append_left _ (List.mem_of_getElem? (i := 35) rfl))
theorem bw_76 : (Jvm.Cond.methodLink "CommitDesk" (31 : Nat) ({ cls := "CommitDesk", name := "transactionOf", desc := "(I)LCommitDesk$Transaction;" } : Jvm.MethodName)) ∈ BIG := List.mem_append_right _ (List.mem_append_left _ (List.mem_of_getElem? (i := 36) rfl))
theorem bw_77 : (Jvm.Cond.instanceMethod ({ cls := "CommitDesk", name := "transactionOf", desc := "(I)LCommitDesk$Transaction;" } : Jvm.MethodName)) ∈ BIG := List.mem_append_right _ (List.mem_append_left _ (List.mem_of_getElem? (i := 37) rfl))
theorem bw_78 : (Jvm.Cond.code ({ cls := "CommitDesk", name := "transactionOf", desc := "(I)LCommitDesk$Transaction;" } : Jvm.MethodName) prog_1_method_15_code (2 : Nat) (Option.some (Jvm.ClassFile.FieldType.object "CommitDesk$Transaction"))) ∈ BIG := List.mem_append_right _ (List.mem_append_left _ (List.mem_of_getElem? (i := 38) rfl))
theorem bw_79 : (Jvm.Cond.classLink "CommitDesk" (111 : Nat) "java/lang/IllegalArgumentException") ∈ BIG := List.mem_append_right _ (List.mem_append_left _ (List.mem_of_getElem? (i := 39) rfl))
theorem bw_80 : (Jvm.Cond.instantiable "java/lang/IllegalArgumentException" (6 : Nat)) ∈ BIG := List.mem_append_right _ (List.mem_append_right _ (List.mem_append_left _ (List.mem_of_getElem? (i := 0) rfl)))
theorem bw_81 : (Jvm.Cond.selects "java/lang/IllegalArgumentException" ({ cls := "java/lang/Throwable", name := "fillInStackTrace", desc := "(I)Ljava/lang/Throwable;" } : Jvm.MethodName) ({ cls := "java/lang/Throwable", name := "fillInStackTrace", desc := "(I)Ljava/lang/Throwable;" } : Jvm.MethodName)) ∈ BIG := List.mem_append_right _ (List.mem_append_right _ (List.mem_append_left _ (List.mem_of_getElem? (i := 1) rfl)))
theorem bw_82 : (Jvm.Cond.selects "java/lang/IllegalArgumentException" ({ cls := "java/lang/Throwable", name := "fillInStackTrace", desc := "()Ljava/lang/Throwable;" } : Jvm.MethodName) ({ cls := "java/lang/Throwable", name := "fillInStackTrace", desc := "()Ljava/lang/Throwable;" } : Jvm.MethodName)) ∈ BIG := List.mem_append_right _ (List.mem_append_right _ (List.mem_append_left _ (List.mem_of_getElem? (i := 2) rfl)))
theorem bw_83 : (Jvm.Cond.lays "java/lang/IllegalArgumentException" "java/lang/Throwable" "cause" "Ljava/lang/Throwable;") ∈ BIG := List.mem_append_right _ (List.mem_append_right _ (List.mem_append_left _ (List.mem_of_getElem? (i := 3) rfl)))
theorem bw_84 : (Jvm.Cond.lays "java/lang/Throwable" "java/lang/Throwable" "cause" "Ljava/lang/Throwable;") ∈ BIG := List.mem_append_right _ (List.mem_append_right _ (List.mem_append_left _ (List.mem_of_getElem? (i := 4) rfl)))
theorem bw_85 : (Jvm.Cond.lays "java/lang/IllegalArgumentException" "java/lang/Throwable" "stackTrace" "[Ljava/lang/StackTraceElement;") ∈ BIG := List.mem_append_right _ (List.mem_append_right _ (List.mem_append_left _ (List.mem_of_getElem? (i := 5) rfl)))
theorem bw_86 : (Jvm.Cond.lays "java/lang/Throwable" "java/lang/Throwable" "stackTrace" "[Ljava/lang/StackTraceElement;") ∈ BIG := List.mem_append_right _ (List.mem_append_right _ (List.mem_append_left _ (List.mem_of_getElem? (i := 6) rfl)))
theorem bw_87 : (Jvm.Cond.lays "java/lang/IllegalArgumentException" "java/lang/Throwable" "suppressedExceptions" "Ljava/util/List;") ∈ BIG := List.mem_append_right _ (List.mem_append_right _ (List.mem_append_left _ (List.mem_of_getElem? (i := 7) rfl)))
theorem bw_88 : (Jvm.Cond.lays "java/lang/Throwable" "java/lang/Throwable" "suppressedExceptions" "Ljava/util/List;") ∈ BIG := List.mem_append_right _ (List.mem_append_right _ (List.mem_append_left _ (List.mem_of_getElem? (i := 8) rfl)))
theorem bw_89 : (Jvm.Cond.lays "java/lang/IllegalArgumentException" "java/lang/Throwable" "detailMessage" "Ljava/lang/String;") ∈ BIG := List.mem_append_right _ (List.mem_append_right _ (List.mem_append_left _ (List.mem_of_getElem? (i := 9) rfl)))
theorem bw_90 : (Jvm.Cond.lays "java/lang/Throwable" "java/lang/Throwable" "detailMessage" "Ljava/lang/String;") ∈ BIG := List.mem_append_right _ (List.mem_append_right _ (List.mem_append_left _ (List.mem_of_getElem? (i := 10) rfl)))
theorem bw_91 : (Jvm.Cond.lays "java/lang/IllegalArgumentException" "java/lang/Throwable" "backtrace" "Ljava/lang/Object;") ∈ BIG := List.mem_append_right _ (List.mem_append_right _ (List.mem_append_left _ (List.mem_of_getElem? (i := 11) rfl)))
theorem bw_92 : (Jvm.Cond.lays "java/lang/Throwable" "java/lang/Throwable" "backtrace" "Ljava/lang/Object;") ∈ BIG := List.mem_append_right _ (List.mem_append_right _ (List.mem_append_left _ (List.mem_of_getElem? (i := 12) rfl)))
theorem bw_93 : (Jvm.Cond.fieldLink "java/lang/Throwable" (198 : Nat) "java/lang/Throwable" "backtrace" "Ljava/lang/Object;") ∈ BIG := List.mem_append_right _ (List.mem_append_right _ (List.mem_append_left _ (List.mem_of_getElem? (i := 13) rfl)))
theorem bw_94 : (Jvm.Cond.superclass "java/lang/Throwable" "java/lang/Object") ∈ BIG := List.mem_append_right _ (List.mem_append_right _ (List.mem_append_left _ (List.mem_of_getElem? (i := 14) rfl)))
theorem bw_95 : (Jvm.Cond.instanceMethod ({ cls := "java/lang/Throwable", name := "<init>", desc := "()V" } : Jvm.MethodName)) ∈ BIG := List.mem_append_right _ (List.mem_append_right _ (List.mem_append_left _ (List.mem_of_getElem? (i := 15) rfl)))
theorem bw_96 : (Jvm.Cond.code ({ cls := "java/lang/Throwable", name := "<init>", desc := "()V" } : Jvm.MethodName) prog_12_method_1_code (1 : Nat) (Option.none : Option Jvm.ClassFile.FieldType)) ∈ BIG := List.mem_append_right _ (List.mem_append_right _ (List.mem_append_left _ (List.mem_of_getElem? (i := 16) rfl)))
theorem bw_97 : (Jvm.Cond.methodLink "java/lang/Throwable" (1 : Nat) ({ cls := "java/lang/Object", name := "<init>", desc := "()V" } : Jvm.MethodName)) ∈ BIG := List.mem_append_right _ (List.mem_append_right _ (List.mem_append_left _ (List.mem_of_getElem? (i := 17) rfl)))
theorem bw_98 : (Jvm.Cond.fieldLink "java/lang/Throwable" (13 : Nat) "java/lang/Throwable" "UNASSIGNED_STACK" "[Ljava/lang/StackTraceElement;") ∈ BIG := List.mem_append_right _ (List.mem_append_right _ (List.mem_append_left _ (List.mem_of_getElem? (i := 18) rfl)))
theorem bw_99 : (Jvm.Cond.fieldLink "java/lang/Throwable" (20 : Nat) "java/lang/Throwable" "SUPPRESSED_SENTINEL" "Ljava/util/List;") ∈ BIG := List.mem_append_right _ (List.mem_append_right _ (List.mem_append_left _ (List.mem_of_getElem? (i := 19) rfl)))
theorem bw_100 : (Jvm.Cond.methodLink "java/lang/Throwable" (27 : Nat) ({ cls := "java/lang/Throwable", name := "fillInStackTrace", desc := "()Ljava/lang/Throwable;" } : Jvm.MethodName)) ∈ BIG := List.mem_append_right _ (List.mem_append_right _ (List.mem_append_left _ (List.mem_of_getElem? (i := 20) rfl)))
theorem bw_101 : (Jvm.Cond.instanceMethod ({ cls := "java/lang/Throwable", name := "fillInStackTrace", desc := "()Ljava/lang/Throwable;" } : Jvm.MethodName)) ∈ BIG := List.mem_append_right _ (List.mem_append_right _ (List.mem_append_left _ (List.mem_of_getElem? (i := 21) rfl)))
theorem bw_102 : (Jvm.Cond.selects "java/lang/IllegalStateException" ({ cls := "java/lang/Throwable", name := "fillInStackTrace", desc := "()Ljava/lang/Throwable;" } : Jvm.MethodName) ({ cls := "java/lang/Throwable", name := "fillInStackTrace", desc := "()Ljava/lang/Throwable;" } : Jvm.MethodName)) ∈ BIG := List.mem_append_right _ (List.mem_append_right _ (List.mem_append_left _ (List.mem_of_getElem? (i := 22) rfl)))
theorem bw_103 : (Jvm.Cond.selects "java/lang/IndexOutOfBoundsException" ({ cls := "java/lang/Throwable", name := "fillInStackTrace", desc := "()Ljava/lang/Throwable;" } : Jvm.MethodName) ({ cls := "java/lang/Throwable", name := "fillInStackTrace", desc := "()Ljava/lang/Throwable;" } : Jvm.MethodName)) ∈ BIG := List.mem_append_right _ (List.mem_append_right _ (List.mem_append_left _ (List.mem_of_getElem? (i := 23) rfl)))
theorem bw_104 : (Jvm.Cond.selects "java/lang/UnsupportedOperationException" ({ cls := "java/lang/Throwable", name := "fillInStackTrace", desc := "()Ljava/lang/Throwable;" } : Jvm.MethodName) ({ cls := "java/lang/Throwable", name := "fillInStackTrace", desc := "()Ljava/lang/Throwable;" } : Jvm.MethodName)) ∈ BIG := List.mem_append_right _ (List.mem_append_right _ (List.mem_append_left _ (List.mem_of_getElem? (i := 24) rfl)))
theorem bw_105 : (Jvm.Cond.methodLink "java/lang/Throwable" (202 : Nat) ({ cls := "java/lang/Throwable", name := "fillInStackTrace", desc := "(I)Ljava/lang/Throwable;" } : Jvm.MethodName)) ∈ BIG := List.mem_append_right _ (List.mem_append_right _ (List.mem_append_left _ (List.mem_of_getElem? (i := 25) rfl)))
theorem bw_106 : (Jvm.Cond.instanceMethod ({ cls := "java/lang/Throwable", name := "fillInStackTrace", desc := "(I)Ljava/lang/Throwable;" } : Jvm.MethodName)) ∈ BIG := List.mem_append_right _ (List.mem_append_right _ (List.mem_append_left _ (List.mem_of_getElem? (i := 26) rfl)))
theorem bw_107 : (Jvm.Cond.instantiable "java/lang/Throwable" (6 : Nat)) ∈ BIG := List.mem_append_right _ (List.mem_append_right _ (List.mem_append_left _ (List.mem_of_getElem? (i := 27) rfl)))
theorem bw_108 : (Jvm.Cond.methodLink "CommitDesk" (115 : Nat) ({ cls := "java/lang/IllegalArgumentException", name := "<init>", desc := "(Ljava/lang/String;)V" } : Jvm.MethodName)) ∈ BIG := List.mem_append_right _ (List.mem_append_right _ (List.mem_append_left _ (List.mem_of_getElem? (i := 28) rfl)))
theorem bw_109 : (Jvm.Cond.instanceMethod ({ cls := "java/lang/IllegalArgumentException", name := "<init>", desc := "(Ljava/lang/String;)V" } : Jvm.MethodName)) ∈ BIG := List.mem_append_right _ (List.mem_append_right _ (List.mem_append_left _ (List.mem_of_getElem? (i := 29) rfl)))
theorem bw_110 : (Jvm.Cond.code ({ cls := "java/lang/IllegalArgumentException", name := "<init>", desc := "(Ljava/lang/String;)V" } : Jvm.MethodName) prog_6_method_2_code (2 : Nat) (Option.none : Option Jvm.ClassFile.FieldType)) ∈ BIG := List.mem_append_right _ (List.mem_append_right _ (List.mem_append_left _ (List.mem_of_getElem? (i := 30) rfl)))
theorem bw_111 : (Jvm.Cond.methodLink "java/lang/IllegalArgumentException" (7 : Nat) ({ cls := "java/lang/RuntimeException", name := "<init>", desc := "(Ljava/lang/String;)V" } : Jvm.MethodName)) ∈ BIG := List.mem_append_right _ (List.mem_append_right _ (List.mem_append_left _ (List.mem_of_getElem? (i := 31) rfl)))
theorem bw_112 : (Jvm.Cond.instanceMethod ({ cls := "java/lang/RuntimeException", name := "<init>", desc := "(Ljava/lang/String;)V" } : Jvm.MethodName)) ∈ BIG := List.mem_append_right _ (List.mem_append_right _ (List.mem_append_left _ (List.mem_of_getElem? (i := 32) rfl)))
theorem bw_113 : (Jvm.Cond.code ({ cls := "java/lang/RuntimeException", name := "<init>", desc := "(Ljava/lang/String;)V" } : Jvm.MethodName) prog_10_method_2_code (2 : Nat) (Option.none : Option Jvm.ClassFile.FieldType)) ∈ BIG := List.mem_append_right _ (List.mem_append_right _ (List.mem_append_left _ (List.mem_of_getElem? (i := 33) rfl)))
theorem bw_114 : (Jvm.Cond.methodLink "java/lang/RuntimeException" (7 : Nat) ({ cls := "java/lang/Exception", name := "<init>", desc := "(Ljava/lang/String;)V" } : Jvm.MethodName)) ∈ BIG := List.mem_append_right _ (List.mem_append_right _ (List.mem_append_left _ (List.mem_of_getElem? (i := 34) rfl)))
theorem bw_115 : (Jvm.Cond.instanceMethod ({ cls := "java/lang/Exception", name := "<init>", desc := "(Ljava/lang/String;)V" } : Jvm.MethodName)) ∈ BIG := List.mem_append_right _ (List.mem_append_right _ (List.mem_append_left _ (List.mem_of_getElem? (i := 35) rfl)))
theorem bw_116 : (Jvm.Cond.code ({ cls := "java/lang/Exception", name := "<init>", desc := "(Ljava/lang/String;)V" } : Jvm.MethodName) prog_5_method_2_code (2 : Nat) (Option.none : Option Jvm.ClassFile.FieldType)) ∈ BIG := List.mem_append_right _ (List.mem_append_right _ (List.mem_append_left _ (List.mem_of_getElem? (i := 36) rfl)))
theorem bw_117 : (Jvm.Cond.methodLink "java/lang/Exception" (7 : Nat) ({ cls := "java/lang/Throwable", name := "<init>", desc := "(Ljava/lang/String;)V" } : Jvm.MethodName)) ∈ BIG := List.mem_append_right _ (List.mem_append_right _ (List.mem_append_left _ (List.mem_of_getElem? (i := 37) rfl)))
theorem bw_118 : (Jvm.Cond.instanceMethod ({ cls := "java/lang/Throwable", name := "<init>", desc := "(Ljava/lang/String;)V" } : Jvm.MethodName)) ∈ BIG := List.mem_append_right _ (List.mem_append_right _ (List.mem_append_left _ (List.mem_of_getElem? (i := 38) rfl)))
theorem bw_119 : (Jvm.Cond.code ({ cls := "java/lang/Throwable", name := "<init>", desc := "(Ljava/lang/String;)V" } : Jvm.MethodName) prog_12_method_2_code (2 : Nat) (Option.none : Option Jvm.ClassFile.FieldType)) ∈ BIG := List.mem_append_right _ (List.mem_append_right _ (List.mem_append_left _ (List.mem_of_getElem? (i := 39) rfl)))
theorem bw_120 : (Jvm.Cond.fieldLink "java/lang/Throwable" (31 : Nat) "java/lang/Throwable" "detailMessage" "Ljava/lang/String;") ∈ BIG := List.mem_append_right _ (List.mem_append_right _ (List.mem_append_right _ (List.mem_append_left _ (List.mem_of_getElem? (i := 0) rfl))))
theorem bw_121 : (Jvm.Cond.fieldLink "java/lang/Throwable" (7 : Nat) "java/lang/Throwable" "cause" "Ljava/lang/Throwable;") ∈ BIG := List.mem_append_right _ (List.mem_append_right _ (List.mem_append_right _ (List.mem_append_left _ (List.mem_of_getElem? (i := 1) rfl))))
theorem bw_122 : (Jvm.Cond.fieldLink "java/lang/Throwable" (17 : Nat) "java/lang/Throwable" "stackTrace" "[Ljava/lang/StackTraceElement;") ∈ BIG := List.mem_append_right _ (List.mem_append_right _ (List.mem_append_right _ (List.mem_append_left _ (List.mem_of_getElem? (i := 2) rfl))))
theorem bw_123 : (Jvm.Cond.fieldLink "java/lang/Throwable" (24 : Nat) "java/lang/Throwable" "suppressedExceptions" "Ljava/util/List;") ∈ BIG := List.mem_append_right _ (List.mem_append_right _ (List.mem_append_right _ (List.mem_append_left _ (List.mem_of_getElem? (i := 3) rfl))))
theorem bw_124 : (Jvm.Cond.lays "java/lang/IllegalArgumentException" "java/lang/Throwable" "depth" "I") ∈ BIG := List.mem_append_right _ (List.mem_append_right _ (List.mem_append_right _ (List.mem_append_left _ (List.mem_of_getElem? (i := 4) rfl))))
theorem bw_125 : (Jvm.Cond.superclass "java/lang/IllegalArgumentException" "java/lang/RuntimeException") ∈ BIG := List.mem_append_right _ (List.mem_append_right _ (List.mem_append_right _ (List.mem_append_left _ (List.mem_of_getElem? (i := 5) rfl))))
theorem bw_126 : (Jvm.Cond.arrayClass Jvm.ClassFile.FieldType.byte) ∈ BIG := List.mem_append_right _ (List.mem_append_right _ (List.mem_append_right _ (List.mem_append_left _ (List.mem_of_getElem? (i := 6) rfl))))
theorem bw_127 : (Jvm.Cond.methodLink "CommitDesk" (35 : Nat) ({ cls := "CommitDesk$Transaction", name := "isOpen", desc := "()Z" } : Jvm.MethodName)) ∈ BIG := List.mem_append_right _ (List.mem_append_right _ (List.mem_append_right _ (List.mem_append_left _ (List.mem_of_getElem? (i := 7) rfl))))
theorem bw_128 : (Jvm.Cond.instanceMethod ({ cls := "CommitDesk$Transaction", name := "isOpen", desc := "()Z" } : Jvm.MethodName)) ∈ BIG := List.mem_append_right _ (List.mem_append_right _ (List.mem_append_right _ (List.mem_append_left _ (List.mem_of_getElem? (i := 8) rfl))))
theorem bw_129 : (Jvm.Cond.selects "CommitDesk$Transaction" ({ cls := "CommitDesk$Transaction", name := "isOpen", desc := "()Z" } : Jvm.MethodName) ({ cls := "CommitDesk$Transaction", name := "isOpen", desc := "()Z" } : Jvm.MethodName)) ∈ BIG := List.mem_append_right _ (List.mem_append_right _ (List.mem_append_right _ (List.mem_append_left _ (List.mem_of_getElem? (i := 9) rfl))))
theorem bw_130 : (Jvm.Cond.code ({ cls := "CommitDesk$Transaction", name := "isOpen", desc := "()Z" } : Jvm.MethodName) prog_2_method_2_code (1 : Nat) (Option.some Jvm.ClassFile.FieldType.boolean)) ∈ BIG := List.mem_append_right _ (List.mem_append_right _ (List.mem_append_right _ (List.mem_append_left _ (List.mem_of_getElem? (i := 10) rfl))))
theorem bw_131 : (Jvm.Cond.classLink "CommitDesk" (39 : Nat) "java/lang/IllegalStateException") ∈ BIG := List.mem_append_right _ (List.mem_append_right _ (List.mem_append_right _ (List.mem_append_left _ (List.mem_of_getElem? (i := 11) rfl))))
theorem bw_132 : (Jvm.Cond.instantiable "java/lang/IllegalStateException" (6 : Nat)) ∈ BIG := List.mem_append_right _ (List.mem_append_right _ (List.mem_append_right _ (List.mem_append_left _ (List.mem_of_getElem? (i := 12) rfl))))
theorem bw_133 : (Jvm.Cond.selects "java/lang/IllegalStateException" ({ cls := "java/lang/Throwable", name := "fillInStackTrace", desc := "(I)Ljava/lang/Throwable;" } : Jvm.MethodName) ({ cls := "java/lang/Throwable", name := "fillInStackTrace", desc := "(I)Ljava/lang/Throwable;" } : Jvm.MethodName)) ∈ BIG := List.mem_append_right _ (List.mem_append_right _ (List.mem_append_right _ (List.mem_append_left _ (List.mem_of_getElem? (i := 13) rfl))))
theorem bw_134 : (Jvm.Cond.lays "java/lang/IllegalStateException" "java/lang/Throwable" "cause" "Ljava/lang/Throwable;") ∈ BIG := List.mem_append_right _ (List.mem_append_right _ (List.mem_append_right _ (List.mem_append_left _ (List.mem_of_getElem? (i := 14) rfl))))
theorem bw_135 : (Jvm.Cond.lays "java/lang/IllegalStateException" "java/lang/Throwable" "stackTrace" "[Ljava/lang/StackTraceElement;") ∈ BIG := List.mem_append_right _ (List.mem_append_right _ (List.mem_append_right _ (List.mem_append_left _ (List.mem_of_getElem? (i := 15) rfl))))
theorem bw_136 : (Jvm.Cond.lays "java/lang/IllegalStateException" "java/lang/Throwable" "suppressedExceptions" "Ljava/util/List;") ∈ BIG := List.mem_append_right _ (List.mem_append_right _ (List.mem_append_right _ (List.mem_append_left _ (List.mem_of_getElem? (i := 16) rfl))))
theorem bw_137 : (Jvm.Cond.lays "java/lang/IllegalStateException" "java/lang/Throwable" "detailMessage" "Ljava/lang/String;") ∈ BIG := List.mem_append_right _ (List.mem_append_right _ (List.mem_append_right _ (List.mem_append_left _ (List.mem_of_getElem? (i := 17) rfl))))
theorem bw_138 : (Jvm.Cond.lays "java/lang/IllegalStateException" "java/lang/Throwable" "backtrace" "Ljava/lang/Object;") ∈ BIG := List.mem_append_right _ (List.mem_append_right _ (List.mem_append_right _ (List.mem_append_left _ (List.mem_of_getElem? (i := 18) rfl))))
theorem bw_139 : (Jvm.Cond.methodLink "CommitDesk" (43 : Nat) ({ cls := "java/lang/IllegalStateException", name := "<init>", desc := "(Ljava/lang/String;)V" } : Jvm.MethodName)) ∈ BIG := List.mem_append_right _ (List.mem_append_right _ (List.mem_append_right _ (List.mem_append_left _ (List.mem_of_getElem? (i := 19) rfl))))
theorem bw_140 : (Jvm.Cond.instanceMethod ({ cls := "java/lang/IllegalStateException", name := "<init>", desc := "(Ljava/lang/String;)V" } : Jvm.MethodName)) ∈ BIG := List.mem_append_right _ (List.mem_append_right _ (List.mem_append_right _ (List.mem_append_left _ (List.mem_of_getElem? (i := 20) rfl))))
theorem bw_141 : (Jvm.Cond.code ({ cls := "java/lang/IllegalStateException", name := "<init>", desc := "(Ljava/lang/String;)V" } : Jvm.MethodName) prog_7_method_2_code (2 : Nat) (Option.none : Option Jvm.ClassFile.FieldType)) ∈ BIG := List.mem_append_right _ (List.mem_append_right _ (List.mem_append_right _ (List.mem_append_left _ (List.mem_of_getElem? (i := 21) rfl))))
theorem bw_142 : (Jvm.Cond.methodLink "java/lang/IllegalStateException" (7 : Nat) ({ cls := "java/lang/RuntimeException", name := "<init>", desc := "(Ljava/lang/String;)V" } : Jvm.MethodName)) ∈ BIG := List.mem_append_right _ (List.mem_append_right _ (List.mem_append_right _ (List.mem_append_left _ (List.mem_of_getElem? (i := 22) rfl))))
theorem bw_143 : (Jvm.Cond.lays "java/lang/IllegalStateException" "java/lang/Throwable" "depth" "I") ∈ BIG := List.mem_append_right _ (List.mem_append_right _ (List.mem_append_right _ (List.mem_append_left _ (List.mem_of_getElem? (i := 23) rfl))))
theorem bw_144 : (Jvm.Cond.superclass "java/lang/IllegalStateException" "java/lang/RuntimeException") ∈ BIG := List.mem_append_right _ (List.mem_append_right _ (List.mem_append_right _ (List.mem_append_left _ (List.mem_of_getElem? (i := 24) rfl))))
theorem bw_145 : (Jvm.Cond.methodLink "CommitDesk" (46 : Nat) ({ cls := "CommitDesk$Transaction", name := "start", desc := "()V" } : Jvm.MethodName)) ∈ BIG := List.mem_append_right _ (List.mem_append_right _ (List.mem_append_right _ (List.mem_append_left _ (List.mem_of_getElem? (i := 25) rfl))))
theorem bw_146 : (Jvm.Cond.instanceMethod ({ cls := "CommitDesk$Transaction", name := "start", desc := "()V" } : Jvm.MethodName)) ∈ BIG := List.mem_append_right _ (List.mem_append_right _ (List.mem_append_right _ (List.mem_append_left _ (List.mem_of_getElem? (i := 26) rfl))))
theorem bw_147 : (Jvm.Cond.selects "CommitDesk$Transaction" ({ cls := "CommitDesk$Transaction", name := "start", desc := "()V" } : Jvm.MethodName) ({ cls := "CommitDesk$Transaction", name := "start", desc := "()V" } : Jvm.MethodName)) ∈ BIG := List.mem_append_right _ (List.mem_append_right _ (List.mem_append_right _ (List.mem_append_left _ (List.mem_of_getElem? (i := 27) rfl))))
theorem bw_148 : (Jvm.Cond.code ({ cls := "CommitDesk$Transaction", name := "start", desc := "()V" } : Jvm.MethodName) prog_2_method_7_code (1 : Nat) (Option.none : Option Jvm.ClassFile.FieldType)) ∈ BIG := List.mem_append_right _ (List.mem_append_right _ (List.mem_append_right _ (List.mem_append_left _ (List.mem_of_getElem? (i := 28) rfl))))
theorem bw_149 : (Jvm.Cond.methodLink "CommitDeskLaw" (78 : Nat) ({ cls := "CommitDeskLaw", name := "read", desc := "(LCommitDesk;II[J)I" } : Jvm.MethodName)) ∈ BIG := List.mem_append_right _ (List.mem_append_right _ (List.mem_append_right _ (List.mem_append_left _ (List.mem_of_getElem? (i := 29) rfl))))
theorem bw_150 : (Jvm.Cond.static ({ cls := "CommitDeskLaw", name := "read", desc := "(LCommitDesk;II[J)I" } : Jvm.MethodName)) ∈ BIG := List.mem_append_right _ (List.mem_append_right _ (List.mem_append_right _ (List.mem_append_left _ (List.mem_of_getElem? (i := 30) rfl))))
theorem bw_151 : (Jvm.Cond.codeWith ({ cls := "CommitDeskLaw", name := "read", desc := "(LCommitDesk;II[J)I" } : Jvm.MethodName) method_4_code (5 : Nat) (Option.some Jvm.ClassFile.FieldType.int) [((0 : Nat), (9 : Nat), (12 : Nat), (13 : Nat)), ((0 : Nat), (9 : Nat), (16 : Nat), (21 : Nat)), ((0 : Nat), (9 : Nat), (20 : Nat), (15 : Nat)), ((0 : Nat), (9 : Nat), (24 : Nat), (23 : Nat))]) ∈ BIG := List.mem_append_right _ (List.mem_append_right _ (List.mem_append_right _ (List.mem_append_left _ (List.mem_of_getElem? (i := 31) rfl))))
theorem bw_152 : (Jvm.Cond.classLink "CommitDeskLaw" (21 : Nat) "java/lang/IndexOutOfBoundsException") ∈ BIG := List.mem_append_right _ (List.mem_append_right _ (List.mem_append_right _ (List.mem_append_left _ (List.mem_of_getElem? (i := 32) rfl))))
theorem bw_153 : (Jvm.Cond.classLink "CommitDeskLaw" (23 : Nat) "java/lang/UnsupportedOperationException") ∈ BIG := List.mem_append_right _ (List.mem_append_right _ (List.mem_append_right _ (List.mem_append_left _ (List.mem_of_getElem? (i := 33) rfl))))
theorem bw_154 : (Jvm.Cond.methodLink "CommitDeskLaw" (17 : Nat) ({ cls := "CommitDesk", name := "read", desc := "(II)J" } : Jvm.MethodName)) ∈ BIG := List.mem_append_right _ (List.mem_append_right _ (List.mem_append_right _ (List.mem_append_left _ (List.mem_of_getElem? (i := 34) rfl))))
theorem bw_155 : (Jvm.Cond.instanceMethod ({ cls := "CommitDesk", name := "read", desc := "(II)J" } : Jvm.MethodName)) ∈ BIG := List.mem_append_right _ (List.mem_append_right _ (List.mem_append_right _ (List.mem_append_left _ (List.mem_of_getElem? (i := 35) rfl))))
theorem bw_156 : (Jvm.Cond.selects "CommitDesk" ({ cls := "CommitDesk", name := "read", desc := "(II)J" } : Jvm.MethodName) ({ cls := "CommitDesk", name := "read", desc := "(II)J" } : Jvm.MethodName)) ∈ BIG := List.mem_append_right _ (List.mem_append_right _ (List.mem_append_right _ (List.mem_append_left _ (List.mem_of_getElem? (i := 36) rfl))))
theorem bw_157 : (Jvm.Cond.code ({ cls := "CommitDesk", name := "read", desc := "(II)J" } : Jvm.MethodName) prog_1_method_3_code (5 : Nat) (Option.some Jvm.ClassFile.FieldType.long)) ∈ BIG := List.mem_append_right _ (List.mem_append_right _ (List.mem_append_right _ (List.mem_append_left _ (List.mem_of_getElem? (i := 37) rfl))))
theorem bw_158 : (Jvm.Cond.methodLink "CommitDesk" (49 : Nat) ({ cls := "CommitDesk", name := "openTransactionAt", desc := "(II)LCommitDesk$Transaction;" } : Jvm.MethodName)) ∈ BIG := List.mem_append_right _ (List.mem_append_right _ (List.mem_append_right _ (List.mem_append_left _ (List.mem_of_getElem? (i := 38) rfl))))
theorem bw_159 : (Jvm.Cond.instanceMethod ({ cls := "CommitDesk", name := "openTransactionAt", desc := "(II)LCommitDesk$Transaction;" } : Jvm.MethodName)) ∈ BIG := List.mem_append_right _ (List.mem_append_right _ (List.mem_append_right _ (List.mem_append_left _ (List.mem_of_getElem? (i := 39) rfl))))
theorem bw_160 : (Jvm.Cond.code ({ cls := "CommitDesk", name := "openTransactionAt", desc := "(II)LCommitDesk$Transaction;" } : Jvm.MethodName) prog_1_method_18_code (3 : Nat) (Option.some (Jvm.ClassFile.FieldType.object "CommitDesk$Transaction"))) ∈ BIG := List.mem_append_right _ (List.mem_append_right _ (List.mem_append_right _ (List.mem_append_right _ (List.mem_append_left _ (List.mem_of_getElem? (i := 0) rfl)))))
theorem bw_161 : (Jvm.Cond.methodLink "CommitDesk" (108 : Nat) ({ cls := "CommitDesk", name := "requireCell", desc := "(I)V" } : Jvm.MethodName)) ∈ BIG := List.mem_append_right _ (List.mem_append_right _ (List.mem_append_right _ (List.mem_append_right _ (List.mem_append_left _ (List.mem_of_getElem? (i := 1) rfl)))))
theorem bw_162 : (Jvm.Cond.instanceMethod ({ cls := "CommitDesk", name := "requireCell", desc := "(I)V" } : Jvm.MethodName)) ∈ BIG := List.mem_append_right _ (List.mem_append_right _ (List.mem_append_right _ (List.mem_append_right _ (List.mem_append_left _ (List.mem_of_getElem? (i := 2) rfl)))))
theorem bw_163 : (Jvm.Cond.code ({ cls := "CommitDesk", name := "requireCell", desc := "(I)V" } : Jvm.MethodName) prog_1_method_16_code (2 : Nat) (Option.none : Option Jvm.ClassFile.FieldType)) ∈ BIG := List.mem_append_right _ (List.mem_append_right _ (List.mem_append_right _ (List.mem_append_right _ (List.mem_append_left _ (List.mem_of_getElem? (i := 3) rfl)))))
theorem bw_164 : (Jvm.Cond.classLink "CommitDesk" (127 : Nat) "java/lang/IndexOutOfBoundsException") ∈ BIG := List.mem_append_right _ (List.mem_append_right _ (List.mem_append_right _ (List.mem_append_right _ (List.mem_append_left _ (List.mem_of_getElem? (i := 4) rfl)))))
theorem bw_165 : (Jvm.Cond.instantiable "java/lang/IndexOutOfBoundsException" (6 : Nat)) ∈ BIG := List.mem_append_right _ (List.mem_append_right _ (List.mem_append_right _ (List.mem_append_right _ (List.mem_append_left _ (List.mem_of_getElem? (i := 5) rfl)))))
theorem bw_166 : (Jvm.Cond.selects "java/lang/IndexOutOfBoundsException" ({ cls := "java/lang/Throwable", name := "fillInStackTrace", desc := "(I)Ljava/lang/Throwable;" } : Jvm.MethodName) ({ cls := "java/lang/Throwable", name := "fillInStackTrace", desc := "(I)Ljava/lang/Throwable;" } : Jvm.MethodName)) ∈ BIG := List.mem_append_right _ (List.mem_append_right _ (List.mem_append_right _ (List.mem_append_right _ (List.mem_append_left _ (List.mem_of_getElem? (i := 6) rfl)))))
theorem bw_167 : (Jvm.Cond.lays "java/lang/IndexOutOfBoundsException" "java/lang/Throwable" "cause" "Ljava/lang/Throwable;") ∈ BIG := List.mem_append_right _ (List.mem_append_right _ (List.mem_append_right _ (List.mem_append_right _ (List.mem_append_left _ (List.mem_of_getElem? (i := 7) rfl)))))
theorem bw_168 : (Jvm.Cond.lays "java/lang/IndexOutOfBoundsException" "java/lang/Throwable" "stackTrace" "[Ljava/lang/StackTraceElement;") ∈ BIG := List.mem_append_right _ (List.mem_append_right _ (List.mem_append_right _ (List.mem_append_right _ (List.mem_append_left _ (List.mem_of_getElem? (i := 8) rfl)))))
theorem bw_169 : (Jvm.Cond.lays "java/lang/IndexOutOfBoundsException" "java/lang/Throwable" "suppressedExceptions" "Ljava/util/List;") ∈ BIG := List.mem_append_right _ (List.mem_append_right _ (List.mem_append_right _ (List.mem_append_right _ (List.mem_append_left _ (List.mem_of_getElem? (i := 9) rfl)))))
theorem bw_170 : (Jvm.Cond.lays "java/lang/IndexOutOfBoundsException" "java/lang/Throwable" "detailMessage" "Ljava/lang/String;") ∈ BIG := List.mem_append_right _ (List.mem_append_right _ (List.mem_append_right _ (List.mem_append_right _ (List.mem_append_left _ (List.mem_of_getElem? (i := 10) rfl)))))
theorem bw_171 : (Jvm.Cond.lays "java/lang/IndexOutOfBoundsException" "java/lang/Throwable" "backtrace" "Ljava/lang/Object;") ∈ BIG := List.mem_append_right _ (List.mem_append_right _ (List.mem_append_right _ (List.mem_append_right _ (List.mem_append_left _ (List.mem_of_getElem? (i := 11) rfl)))))
theorem bw_172 : (Jvm.Cond.methodLink "CommitDesk" (131 : Nat) ({ cls := "java/lang/IndexOutOfBoundsException", name := "<init>", desc := "(Ljava/lang/String;)V" } : Jvm.MethodName)) ∈ BIG := List.mem_append_right _ (List.mem_append_right _ (List.mem_append_right _ (List.mem_append_right _ (List.mem_append_left _ (List.mem_of_getElem? (i := 12) rfl)))))
theorem bw_173 : (Jvm.Cond.instanceMethod ({ cls := "java/lang/IndexOutOfBoundsException", name := "<init>", desc := "(Ljava/lang/String;)V" } : Jvm.MethodName)) ∈ BIG := List.mem_append_right _ (List.mem_append_right _ (List.mem_append_right _ (List.mem_append_right _ (List.mem_append_left _ (List.mem_of_getElem? (i := 13) rfl)))))
theorem bw_174 : (Jvm.Cond.code ({ cls := "java/lang/IndexOutOfBoundsException", name := "<init>", desc := "(Ljava/lang/String;)V" } : Jvm.MethodName) prog_8_method_2_code (2 : Nat) (Option.none : Option Jvm.ClassFile.FieldType)) ∈ BIG := List.mem_append_right _ (List.mem_append_right _ (List.mem_append_right _ (List.mem_append_right _ (List.mem_append_left _ (List.mem_of_getElem? (i := 14) rfl)))))
theorem bw_175 : (Jvm.Cond.methodLink "java/lang/IndexOutOfBoundsException" (7 : Nat) ({ cls := "java/lang/RuntimeException", name := "<init>", desc := "(Ljava/lang/String;)V" } : Jvm.MethodName)) ∈ BIG := List.mem_append_right _ (List.mem_append_right _ (List.mem_append_right _ (List.mem_append_right _ (List.mem_append_left _ (List.mem_of_getElem? (i := 15) rfl)))))
theorem bw_176 : (Jvm.Cond.lays "java/lang/IndexOutOfBoundsException" "java/lang/Throwable" "depth" "I") ∈ BIG := List.mem_append_right _ (List.mem_append_right _ (List.mem_append_right _ (List.mem_append_right _ (List.mem_append_left _ (List.mem_of_getElem? (i := 16) rfl)))))
theorem bw_177 : (Jvm.Cond.superclass "java/lang/IndexOutOfBoundsException" "java/lang/RuntimeException") ∈ BIG := List.mem_append_right _ (List.mem_append_right _ (List.mem_append_right _ (List.mem_append_right _ (List.mem_append_left _ (List.mem_of_getElem? (i := 17) rfl)))))
theorem bw_178 : (Jvm.Cond.methodLink "CommitDesk" (81 : Nat) ({ cls := "CommitDesk", name := "openTransactionOf", desc := "(I)LCommitDesk$Transaction;" } : Jvm.MethodName)) ∈ BIG := List.mem_append_right _ (List.mem_append_right _ (List.mem_append_right _ (List.mem_append_right _ (List.mem_append_left _ (List.mem_of_getElem? (i := 18) rfl)))))
theorem bw_179 : (Jvm.Cond.instanceMethod ({ cls := "CommitDesk", name := "openTransactionOf", desc := "(I)LCommitDesk$Transaction;" } : Jvm.MethodName)) ∈ BIG := List.mem_append_right _ (List.mem_append_right _ (List.mem_append_right _ (List.mem_append_right _ (List.mem_append_left _ (List.mem_of_getElem? (i := 19) rfl)))))
theorem bw_180 : (Jvm.Cond.code ({ cls := "CommitDesk", name := "openTransactionOf", desc := "(I)LCommitDesk$Transaction;" } : Jvm.MethodName) prog_1_method_17_code (3 : Nat) (Option.some (Jvm.ClassFile.FieldType.object "CommitDesk$Transaction"))) ∈ BIG := List.mem_append_right _ (List.mem_append_right _ (List.mem_append_right _ (List.mem_append_right _ (List.mem_append_left _ (List.mem_of_getElem? (i := 20) rfl)))))
theorem bw_181 : (Jvm.Cond.methodLink "CommitDesk" (53 : Nat) ({ cls := "CommitDesk$Transaction", name := "lastPartWith", desc := "(I)I" } : Jvm.MethodName)) ∈ BIG := List.mem_append_right _ (List.mem_append_right _ (List.mem_append_right _ (List.mem_append_right _ (List.mem_append_left _ (List.mem_of_getElem? (i := 21) rfl)))))
theorem bw_182 : (Jvm.Cond.instanceMethod ({ cls := "CommitDesk$Transaction", name := "lastPartWith", desc := "(I)I" } : Jvm.MethodName)) ∈ BIG := List.mem_append_right _ (List.mem_append_right _ (List.mem_append_right _ (List.mem_append_right _ (List.mem_append_left _ (List.mem_of_getElem? (i := 22) rfl)))))
theorem bw_183 : (Jvm.Cond.selects "CommitDesk$Transaction" ({ cls := "CommitDesk$Transaction", name := "lastPartWith", desc := "(I)I" } : Jvm.MethodName) ({ cls := "CommitDesk$Transaction", name := "lastPartWith", desc := "(I)I" } : Jvm.MethodName)) ∈ BIG := List.mem_append_right _ (List.mem_append_right _ (List.mem_append_right _ (List.mem_append_right _ (List.mem_append_left _ (List.mem_of_getElem? (i := 23) rfl)))))
theorem bw_184 : (Jvm.Cond.code ({ cls := "CommitDesk$Transaction", name := "lastPartWith", desc := "(I)I" } : Jvm.MethodName) prog_2_method_11_code (3 : Nat) (Option.some Jvm.ClassFile.FieldType.int)) ∈ BIG := List.mem_append_right _ (List.mem_append_right _ (List.mem_append_right _ (List.mem_append_right _ (List.mem_append_left _ (List.mem_of_getElem? (i := 24) rfl)))))
theorem bw_185 : (Jvm.Cond.methodLink "CommitDesk$Transaction" (40 : Nat) ({ cls := "CommitDesk$Transaction", name := "holds", desc := "(II)Z" } : Jvm.MethodName)) ∈ BIG := List.mem_append_right _ (List.mem_append_right _ (List.mem_append_right _ (List.mem_append_right _ (List.mem_append_left _ (List.mem_of_getElem? (i := 25) rfl)))))
theorem bw_186 : (Jvm.Cond.static ({ cls := "CommitDesk$Transaction", name := "holds", desc := "(II)Z" } : Jvm.MethodName)) ∈ BIG := List.mem_append_right _ (List.mem_append_right _ (List.mem_append_right _ (List.mem_append_right _ (List.mem_append_left _ (List.mem_of_getElem? (i := 26) rfl)))))
theorem bw_187 : (Jvm.Cond.code ({ cls := "CommitDesk$Transaction", name := "holds", desc := "(II)Z" } : Jvm.MethodName) prog_2_method_18_code (2 : Nat) (Option.some Jvm.ClassFile.FieldType.boolean)) ∈ BIG := List.mem_append_right _ (List.mem_append_right _ (List.mem_append_right _ (List.mem_append_right _ (List.mem_append_left _ (List.mem_of_getElem? (i := 27) rfl)))))
theorem bw_188 : (Jvm.Cond.methodLink "CommitDesk" (57 : Nat) ({ cls := "CommitDesk$Transaction", name := "writtenIn", desc := "(II)J" } : Jvm.MethodName)) ∈ BIG := List.mem_append_right _ (List.mem_append_right _ (List.mem_append_right _ (List.mem_append_right _ (List.mem_append_left _ (List.mem_of_getElem? (i := 28) rfl)))))
theorem bw_189 : (Jvm.Cond.instanceMethod ({ cls := "CommitDesk$Transaction", name := "writtenIn", desc := "(II)J" } : Jvm.MethodName)) ∈ BIG := List.mem_append_right _ (List.mem_append_right _ (List.mem_append_right _ (List.mem_append_right _ (List.mem_append_left _ (List.mem_of_getElem? (i := 29) rfl)))))
theorem bw_190 : (Jvm.Cond.selects "CommitDesk$Transaction" ({ cls := "CommitDesk$Transaction", name := "writtenIn", desc := "(II)J" } : Jvm.MethodName) ({ cls := "CommitDesk$Transaction", name := "writtenIn", desc := "(II)J" } : Jvm.MethodName)) ∈ BIG := List.mem_append_right _ (List.mem_append_right _ (List.mem_append_right _ (List.mem_append_right _ (List.mem_append_left _ (List.mem_of_getElem? (i := 30) rfl)))))
theorem bw_191 : (Jvm.Cond.code ({ cls := "CommitDesk$Transaction", name := "writtenIn", desc := "(II)J" } : Jvm.MethodName) prog_2_method_12_code (3 : Nat) (Option.some Jvm.ClassFile.FieldType.long)) ∈ BIG := List.mem_append_right _ (List.mem_append_right _ (List.mem_append_right _ (List.mem_append_right _ (List.mem_append_left _ (List.mem_of_getElem? (i := 31) rfl)))))
theorem bw_192 : (Jvm.Cond.methodLink "CommitDesk" (61 : Nat) ({ cls := "CommitDesk$Transaction", name := "isStale", desc := "()Z" } : Jvm.MethodName)) ∈ BIG := List.mem_append_right _ (List.mem_append_right _ (List.mem_append_right _ (List.mem_append_right _ (List.mem_append_left _ (List.mem_of_getElem? (i := 32) rfl)))))
theorem bw_193 : (Jvm.Cond.instanceMethod ({ cls := "CommitDesk$Transaction", name := "isStale", desc := "()Z" } : Jvm.MethodName)) ∈ BIG := List.mem_append_right _ (List.mem_append_right _ (List.mem_append_right _ (List.mem_append_right _ (List.mem_append_left _ (List.mem_of_getElem? (i := 33) rfl)))))
theorem bw_194 : (Jvm.Cond.selects "CommitDesk$Transaction" ({ cls := "CommitDesk$Transaction", name := "isStale", desc := "()Z" } : Jvm.MethodName) ({ cls := "CommitDesk$Transaction", name := "isStale", desc := "()Z" } : Jvm.MethodName)) ∈ BIG := List.mem_append_right _ (List.mem_append_right _ (List.mem_append_right _ (List.mem_append_right _ (List.mem_append_left _ (List.mem_of_getElem? (i := 34) rfl)))))
theorem bw_195 : (Jvm.Cond.code ({ cls := "CommitDesk$Transaction", name := "isStale", desc := "()Z" } : Jvm.MethodName) prog_2_method_3_code (1 : Nat) (Option.some Jvm.ClassFile.FieldType.boolean)) ∈ BIG := List.mem_append_right _ (List.mem_append_right _ (List.mem_append_right _ (List.mem_append_right _ (List.mem_append_left _ (List.mem_of_getElem? (i := 35) rfl)))))
theorem bw_196 : (Jvm.Cond.methodLink "CommitDesk" (64 : Nat) ({ cls := "CommitDesk", name := "endStale", desc := "(LCommitDesk$Transaction;)V" } : Jvm.MethodName)) ∈ BIG := List.mem_append_right _ (List.mem_append_right _ (List.mem_append_right _ (List.mem_append_right _ (List.mem_append_left _ (List.mem_of_getElem? (i := 36) rfl)))))
theorem bw_197 : (Jvm.Cond.instanceMethod ({ cls := "CommitDesk", name := "endStale", desc := "(LCommitDesk$Transaction;)V" } : Jvm.MethodName)) ∈ BIG := List.mem_append_right _ (List.mem_append_right _ (List.mem_append_right _ (List.mem_append_right _ (List.mem_append_left _ (List.mem_of_getElem? (i := 37) rfl)))))
theorem bw_198 : (Jvm.Cond.code ({ cls := "CommitDesk", name := "endStale", desc := "(LCommitDesk$Transaction;)V" } : Jvm.MethodName) prog_1_method_20_code (2 : Nat) (Option.none : Option Jvm.ClassFile.FieldType)) ∈ BIG := List.mem_append_right _ (List.mem_append_right _ (List.mem_append_right _ (List.mem_append_right _ (List.mem_append_left _ (List.mem_of_getElem? (i := 38) rfl)))))
theorem bw_199 : (Jvm.Cond.methodLink "CommitDesk" (102 : Nat) ({ cls := "CommitDesk$Transaction", name := "close", desc := "()V" } : Jvm.MethodName)) ∈ BIG := List.mem_append_right _ (List.mem_append_right _ (List.mem_append_right _ (List.mem_append_right _ (List.mem_append_left _ (List.mem_of_getElem? (i := 39) rfl)))))
theorem bw_200 : (Jvm.Cond.instanceMethod ({ cls := "CommitDesk$Transaction", name := "close", desc := "()V" } : Jvm.MethodName)) ∈ BIG := List.mem_append_right _ (List.mem_append_right _ (List.mem_append_right _ (List.mem_append_right _ (List.mem_append_right _ (List.mem_append_left _ (List.mem_of_getElem? (i := 0) rfl))))))
theorem bw_201 : (Jvm.Cond.selects "CommitDesk$Transaction" ({ cls := "CommitDesk$Transaction", name := "close", desc := "()V" } : Jvm.MethodName) ({ cls := "CommitDesk$Transaction", name := "close", desc := "()V" } : Jvm.MethodName)) ∈ BIG := List.mem_append_right _ (List.mem_append_right _ (List.mem_append_right _ (List.mem_append_right _ (List.mem_append_right _ (List.mem_append_left _ (List.mem_of_getElem? (i := 1) rfl))))))
theorem bw_202 : (Jvm.Cond.code ({ cls := "CommitDesk$Transaction", name := "close", desc := "()V" } : Jvm.MethodName) prog_2_method_8_code (1 : Nat) (Option.none : Option Jvm.ClassFile.FieldType)) ∈ BIG := List.mem_append_right _ (List.mem_append_right _ (List.mem_append_right _ (List.mem_append_right _ (List.mem_append_right _ (List.mem_append_left _ (List.mem_of_getElem? (i := 2) rfl))))))
theorem bw_203 : (Jvm.Cond.classLink "CommitDesk" (68 : Nat) "java/lang/UnsupportedOperationException") ∈ BIG := List.mem_append_right _ (List.mem_append_right _ (List.mem_append_right _ (List.mem_append_right _ (List.mem_append_right _ (List.mem_append_left _ (List.mem_of_getElem? (i := 3) rfl))))))
theorem bw_204 : (Jvm.Cond.instantiable "java/lang/UnsupportedOperationException" (6 : Nat)) ∈ BIG := List.mem_append_right _ (List.mem_append_right _ (List.mem_append_right _ (List.mem_append_right _ (List.mem_append_right _ (List.mem_append_left _ (List.mem_of_getElem? (i := 4) rfl))))))
theorem bw_205 : (Jvm.Cond.selects "java/lang/UnsupportedOperationException" ({ cls := "java/lang/Throwable", name := "fillInStackTrace", desc := "(I)Ljava/lang/Throwable;" } : Jvm.MethodName) ({ cls := "java/lang/Throwable", name := "fillInStackTrace", desc := "(I)Ljava/lang/Throwable;" } : Jvm.MethodName)) ∈ BIG := List.mem_append_right _ (List.mem_append_right _ (List.mem_append_right _ (List.mem_append_right _ (List.mem_append_right _ (List.mem_append_left _ (List.mem_of_getElem? (i := 5) rfl))))))
theorem bw_206 : (Jvm.Cond.lays "java/lang/UnsupportedOperationException" "java/lang/Throwable" "cause" "Ljava/lang/Throwable;") ∈ BIG := List.mem_append_right _ (List.mem_append_right _ (List.mem_append_right _ (List.mem_append_right _ (List.mem_append_right _ (List.mem_append_left _ (List.mem_of_getElem? (i := 6) rfl))))))
theorem bw_207 : (Jvm.Cond.lays "java/lang/UnsupportedOperationException" "java/lang/Throwable" "stackTrace" "[Ljava/lang/StackTraceElement;") ∈ BIG := List.mem_append_right _ (List.mem_append_right _ (List.mem_append_right _ (List.mem_append_right _ (List.mem_append_right _ (List.mem_append_left _ (List.mem_of_getElem? (i := 7) rfl))))))
theorem bw_208 : (Jvm.Cond.lays "java/lang/UnsupportedOperationException" "java/lang/Throwable" "suppressedExceptions" "Ljava/util/List;") ∈ BIG := List.mem_append_right _ (List.mem_append_right _ (List.mem_append_right _ (List.mem_append_right _ (List.mem_append_right _ (List.mem_append_left _ (List.mem_of_getElem? (i := 8) rfl))))))
theorem bw_209 : (Jvm.Cond.lays "java/lang/UnsupportedOperationException" "java/lang/Throwable" "detailMessage" "Ljava/lang/String;") ∈ BIG := List.mem_append_right _ (List.mem_append_right _ (List.mem_append_right _ (List.mem_append_right _ (List.mem_append_right _ (List.mem_append_left _ (List.mem_of_getElem? (i := 9) rfl))))))
theorem bw_210 : (Jvm.Cond.lays "java/lang/UnsupportedOperationException" "java/lang/Throwable" "backtrace" "Ljava/lang/Object;") ∈ BIG := List.mem_append_right _ (List.mem_append_right _ (List.mem_append_right _ (List.mem_append_right _ (List.mem_append_right _ (List.mem_append_left _ (List.mem_of_getElem? (i := 10) rfl))))))
theorem bw_211 : (Jvm.Cond.methodLink "CommitDesk" (72 : Nat) ({ cls := "java/lang/UnsupportedOperationException", name := "<init>", desc := "(Ljava/lang/String;)V" } : Jvm.MethodName)) ∈ BIG := List.mem_append_right _ (List.mem_append_right _ (List.mem_append_right _ (List.mem_append_right _ (List.mem_append_right _ (List.mem_append_left _ (List.mem_of_getElem? (i := 11) rfl))))))
theorem bw_212 : (Jvm.Cond.instanceMethod ({ cls := "java/lang/UnsupportedOperationException", name := "<init>", desc := "(Ljava/lang/String;)V" } : Jvm.MethodName)) ∈ BIG := List.mem_append_right _ (List.mem_append_right _ (List.mem_append_right _ (List.mem_append_right _ (List.mem_append_right _ (List.mem_append_left _ (List.mem_of_getElem? (i := 12) rfl))))))
theorem bw_213 : (Jvm.Cond.code ({ cls := "java/lang/UnsupportedOperationException", name := "<init>", desc := "(Ljava/lang/String;)V" } : Jvm.MethodName) prog_13_method_2_code (2 : Nat) (Option.none : Option Jvm.ClassFile.FieldType)) ∈ BIG := List.mem_append_right _ (List.mem_append_right _ (List.mem_append_right _ (List.mem_append_right _ (List.mem_append_right _ (List.mem_append_left _ (List.mem_of_getElem? (i := 13) rfl))))))
theorem bw_214 : (Jvm.Cond.methodLink "java/lang/UnsupportedOperationException" (7 : Nat) ({ cls := "java/lang/RuntimeException", name := "<init>", desc := "(Ljava/lang/String;)V" } : Jvm.MethodName)) ∈ BIG := List.mem_append_right _ (List.mem_append_right _ (List.mem_append_right _ (List.mem_append_right _ (List.mem_append_right _ (List.mem_append_left _ (List.mem_of_getElem? (i := 14) rfl))))))
theorem bw_215 : (Jvm.Cond.lays "java/lang/UnsupportedOperationException" "java/lang/Throwable" "depth" "I") ∈ BIG := List.mem_append_right _ (List.mem_append_right _ (List.mem_append_right _ (List.mem_append_right _ (List.mem_append_right _ (List.mem_append_left _ (List.mem_of_getElem? (i := 15) rfl))))))
theorem bw_216 : (Jvm.Cond.superclass "java/lang/UnsupportedOperationException" "java/lang/RuntimeException") ∈ BIG := List.mem_append_right _ (List.mem_append_right _ (List.mem_append_right _ (List.mem_append_right _ (List.mem_append_right _ (List.mem_append_left _ (List.mem_of_getElem? (i := 16) rfl))))))
theorem bw_217 : (Jvm.Cond.methodLink "CommitDesk" (73 : Nat) ({ cls := "CommitDesk$Transaction", name := "markRead", desc := "(I)V" } : Jvm.MethodName)) ∈ BIG := List.mem_append_right _ (List.mem_append_right _ (List.mem_append_right _ (List.mem_append_right _ (List.mem_append_right _ (List.mem_append_left _ (List.mem_of_getElem? (i := 17) rfl))))))
theorem bw_218 : (Jvm.Cond.instanceMethod ({ cls := "CommitDesk$Transaction", name := "markRead", desc := "(I)V" } : Jvm.MethodName)) ∈ BIG := List.mem_append_right _ (List.mem_append_right _ (List.mem_append_right _ (List.mem_append_right _ (List.mem_append_right _ (List.mem_append_left _ (List.mem_of_getElem? (i := 18) rfl))))))
theorem bw_219 : (Jvm.Cond.selects "CommitDesk$Transaction" ({ cls := "CommitDesk$Transaction", name := "markRead", desc := "(I)V" } : Jvm.MethodName) ({ cls := "CommitDesk$Transaction", name := "markRead", desc := "(I)V" } : Jvm.MethodName)) ∈ BIG := List.mem_append_right _ (List.mem_append_right _ (List.mem_append_right _ (List.mem_append_right _ (List.mem_append_right _ (List.mem_append_left _ (List.mem_of_getElem? (i := 19) rfl))))))
theorem bw_220 : (Jvm.Cond.code ({ cls := "CommitDesk$Transaction", name := "markRead", desc := "(I)V" } : Jvm.MethodName) prog_2_method_9_code (2 : Nat) (Option.none : Option Jvm.ClassFile.FieldType)) ∈ BIG := List.mem_append_right _ (List.mem_append_right _ (List.mem_append_right _ (List.mem_append_right _ (List.mem_append_right _ (List.mem_append_left _ (List.mem_of_getElem? (i := 20) rfl))))))
theorem bw_221 : (Jvm.Cond.methodLink "CommitDeskLaw" (84 : Nat) ({ cls := "CommitDeskLaw", name := "write", desc := "(LCommitDesk;IIJ)I" } : Jvm.MethodName)) ∈ BIG := List.mem_append_right _ (List.mem_append_right _ (List.mem_append_right _ (List.mem_append_right _ (List.mem_append_right _ (List.mem_append_left _ (List.mem_of_getElem? (i := 21) rfl))))))
theorem bw_222 : (Jvm.Cond.static ({ cls := "CommitDeskLaw", name := "write", desc := "(LCommitDesk;IIJ)I" } : Jvm.MethodName)) ∈ BIG := List.mem_append_right _ (List.mem_append_right _ (List.mem_append_right _ (List.mem_append_right _ (List.mem_append_right _ (List.mem_append_left _ (List.mem_of_getElem? (i := 22) rfl))))))
theorem bw_223 : (Jvm.Cond.codeWith ({ cls := "CommitDeskLaw", name := "write", desc := "(LCommitDesk;IIJ)I" } : Jvm.MethodName) method_5_code (6 : Nat) (Option.some Jvm.ClassFile.FieldType.int) [((0 : Nat), (7 : Nat), (10 : Nat), (13 : Nat)), ((0 : Nat), (7 : Nat), (14 : Nat), (21 : Nat)), ((0 : Nat), (7 : Nat), (18 : Nat), (15 : Nat))]) ∈ BIG := List.mem_append_right _ (List.mem_append_right _ (List.mem_append_right _ (List.mem_append_right _ (List.mem_append_right _ (List.mem_append_left _ (List.mem_of_getElem? (i := 23) rfl))))))
theorem bw_224 : (Jvm.Cond.methodLink "CommitDeskLaw" (25 : Nat) ({ cls := "CommitDesk", name := "write", desc := "(IIJ)V" } : Jvm.MethodName)) ∈ BIG := List.mem_append_right _ (List.mem_append_right _ (List.mem_append_right _ (List.mem_append_right _ (List.mem_append_right _ (List.mem_append_left _ (List.mem_of_getElem? (i := 24) rfl))))))
theorem bw_225 : (Jvm.Cond.instanceMethod ({ cls := "CommitDesk", name := "write", desc := "(IIJ)V" } : Jvm.MethodName)) ∈ BIG := List.mem_append_right _ (List.mem_append_right _ (List.mem_append_right _ (List.mem_append_right _ (List.mem_append_right _ (List.mem_append_left _ (List.mem_of_getElem? (i := 25) rfl))))))
theorem bw_226 : (Jvm.Cond.selects "CommitDesk" ({ cls := "CommitDesk", name := "write", desc := "(IIJ)V" } : Jvm.MethodName) ({ cls := "CommitDesk", name := "write", desc := "(IIJ)V" } : Jvm.MethodName)) ∈ BIG := List.mem_append_right _ (List.mem_append_right _ (List.mem_append_right _ (List.mem_append_right _ (List.mem_append_right _ (List.mem_append_left _ (List.mem_of_getElem? (i := 26) rfl))))))
theorem bw_227 : (Jvm.Cond.code ({ cls := "CommitDesk", name := "write", desc := "(IIJ)V" } : Jvm.MethodName) prog_1_method_4_code (5 : Nat) (Option.none : Option Jvm.ClassFile.FieldType)) ∈ BIG := List.mem_append_right _ (List.mem_append_right _ (List.mem_append_right _ (List.mem_append_right _ (List.mem_append_right _ (List.mem_append_left _ (List.mem_of_getElem? (i := 27) rfl))))))
theorem bw_228 : (Jvm.Cond.methodLink "CommitDesk" (77 : Nat) ({ cls := "CommitDesk$Transaction", name := "putInLastPart", desc := "(IJ)V" } : Jvm.MethodName)) ∈ BIG := List.mem_append_right _ (List.mem_append_right _ (List.mem_append_right _ (List.mem_append_right _ (List.mem_append_right _ (List.mem_append_left _ (List.mem_of_getElem? (i := 28) rfl))))))
theorem bw_229 : (Jvm.Cond.instanceMethod ({ cls := "CommitDesk$Transaction", name := "putInLastPart", desc := "(IJ)V" } : Jvm.MethodName)) ∈ BIG := List.mem_append_right _ (List.mem_append_right _ (List.mem_append_right _ (List.mem_append_right _ (List.mem_append_right _ (List.mem_append_left _ (List.mem_of_getElem? (i := 29) rfl))))))
theorem bw_230 : (Jvm.Cond.selects "CommitDesk$Transaction" ({ cls := "CommitDesk$Transaction", name := "putInLastPart", desc := "(IJ)V" } : Jvm.MethodName) ({ cls := "CommitDesk$Transaction", name := "putInLastPart", desc := "(IJ)V" } : Jvm.MethodName)) ∈ BIG := List.mem_append_right _ (List.mem_append_right _ (List.mem_append_right _ (List.mem_append_right _ (List.mem_append_right _ (List.mem_append_left _ (List.mem_of_getElem? (i := 30) rfl))))))
theorem bw_231 : (Jvm.Cond.code ({ cls := "CommitDesk$Transaction", name := "putInLastPart", desc := "(IJ)V" } : Jvm.MethodName) prog_2_method_13_code (4 : Nat) (Option.none : Option Jvm.ClassFile.FieldType)) ∈ BIG := List.mem_append_right _ (List.mem_append_right _ (List.mem_append_right _ (List.mem_append_right _ (List.mem_append_right _ (List.mem_append_left _ (List.mem_of_getElem? (i := 31) rfl))))))
theorem bw_232 : (Jvm.Cond.methodLink "CommitDesk$Transaction" (44 : Nat) ({ cls := "CommitDesk$Transaction", name := "putInPart", desc := "(IIJ)V" } : Jvm.MethodName)) ∈ BIG := List.mem_append_right _ (List.mem_append_right _ (List.mem_append_right _ (List.mem_append_right _ (List.mem_append_right _ (List.mem_append_left _ (List.mem_of_getElem? (i := 32) rfl))))))
theorem bw_233 : (Jvm.Cond.instanceMethod ({ cls := "CommitDesk$Transaction", name := "putInPart", desc := "(IIJ)V" } : Jvm.MethodName)) ∈ BIG := List.mem_append_right _ (List.mem_append_right _ (List.mem_append_right _ (List.mem_append_right _ (List.mem_append_right _ (List.mem_append_left _ (List.mem_of_getElem? (i := 33) rfl))))))
theorem bw_234 : (Jvm.Cond.code ({ cls := "CommitDesk$Transaction", name := "putInPart", desc := "(IIJ)V" } : Jvm.MethodName) prog_2_method_17_code (5 : Nat) (Option.none : Option Jvm.ClassFile.FieldType)) ∈ BIG := List.mem_append_right _ (List.mem_append_right _ (List.mem_append_right _ (List.mem_append_right _ (List.mem_append_right _ (List.mem_append_left _ (List.mem_of_getElem? (i := 34) rfl))))))
theorem bw_235 : (Jvm.Cond.methodLink "CommitDeskLaw" (88 : Nat) ({ cls := "CommitDeskLaw", name := "save", desc := "(LCommitDesk;I[J)I" } : Jvm.MethodName)) ∈ BIG := List.mem_append_right _ (List.mem_append_right _ (List.mem_append_right _ (List.mem_append_right _ (List.mem_append_right _ (List.mem_append_left _ (List.mem_of_getElem? (i := 35) rfl))))))
theorem bw_236 : (Jvm.Cond.static ({ cls := "CommitDeskLaw", name := "save", desc := "(LCommitDesk;I[J)I" } : Jvm.MethodName)) ∈ BIG := List.mem_append_right _ (List.mem_append_right _ (List.mem_append_right _ (List.mem_append_right _ (List.mem_append_right _ (List.mem_append_left _ (List.mem_of_getElem? (i := 36) rfl))))))
theorem bw_237 : (Jvm.Cond.codeWith ({ cls := "CommitDeskLaw", name := "save", desc := "(LCommitDesk;I[J)I" } : Jvm.MethodName) method_6_code (4 : Nat) (Option.some Jvm.ClassFile.FieldType.int) [((0 : Nat), (9 : Nat), (12 : Nat), (13 : Nat)), ((0 : Nat), (9 : Nat), (15 : Nat), (15 : Nat)), ((0 : Nat), (9 : Nat), (18 : Nat), (23 : Nat))]) ∈ BIG := List.mem_append_right _ (List.mem_append_right _ (List.mem_append_right _ (List.mem_append_right _ (List.mem_append_right _ (List.mem_append_left _ (List.mem_of_getElem? (i := 37) rfl))))))
theorem bw_238 : (Jvm.Cond.methodLink "CommitDeskLaw" (29 : Nat) ({ cls := "CommitDesk", name := "save", desc := "(I)I" } : Jvm.MethodName)) ∈ BIG := List.mem_append_right _ (List.mem_append_right _ (List.mem_append_right _ (List.mem_append_right _ (List.mem_append_right _ (List.mem_append_left _ (List.mem_of_getElem? (i := 38) rfl))))))
theorem bw_239 : (Jvm.Cond.instanceMethod ({ cls := "CommitDesk", name := "save", desc := "(I)I" } : Jvm.MethodName)) ∈ BIG := List.mem_append_right _ (List.mem_append_right _ (List.mem_append_right _ (List.mem_append_right _ (List.mem_append_right _ (List.mem_append_left _ (List.mem_of_getElem? (i := 39) rfl))))))
theorem bw_240 : (Jvm.Cond.selects "CommitDesk" ({ cls := "CommitDesk", name := "save", desc := "(I)I" } : Jvm.MethodName) ({ cls := "CommitDesk", name := "save", desc := "(I)I" } : Jvm.MethodName)) ∈ BIG := List.mem_append_right _ (List.mem_append_right _ (List.mem_append_right _ (List.mem_append_right _ (List.mem_append_right _ (List.mem_append_right _ (List.mem_append_left _ (List.mem_of_getElem? (i := 0) rfl)))))))
theorem bw_241 : (Jvm.Cond.code ({ cls := "CommitDesk", name := "save", desc := "(I)I" } : Jvm.MethodName) prog_1_method_5_code (3 : Nat) (Option.some Jvm.ClassFile.FieldType.int)) ∈ BIG := List.mem_append_right _ (List.mem_append_right _ (List.mem_append_right _ (List.mem_append_right _ (List.mem_append_right _ (List.mem_append_right _ (List.mem_append_left _ (List.mem_of_getElem? (i := 1) rfl)))))))
theorem bw_242 : (Jvm.Cond.methodLink "CommitDesk" (84 : Nat) ({ cls := "CommitDesk$Transaction", name := "partCount", desc := "()I" } : Jvm.MethodName)) ∈ BIG := List.mem_append_right _ (List.mem_append_right _ (List.mem_append_right _ (List.mem_append_right _ (List.mem_append_right _ (List.mem_append_right _ (List.mem_append_left _ (List.mem_of_getElem? (i := 2) rfl)))))))
theorem bw_243 : (Jvm.Cond.instanceMethod ({ cls := "CommitDesk$Transaction", name := "partCount", desc := "()I" } : Jvm.MethodName)) ∈ BIG := List.mem_append_right _ (List.mem_append_right _ (List.mem_append_right _ (List.mem_append_right _ (List.mem_append_right _ (List.mem_append_right _ (List.mem_append_left _ (List.mem_of_getElem? (i := 3) rfl)))))))
theorem bw_244 : (Jvm.Cond.selects "CommitDesk$Transaction" ({ cls := "CommitDesk$Transaction", name := "partCount", desc := "()I" } : Jvm.MethodName) ({ cls := "CommitDesk$Transaction", name := "partCount", desc := "()I" } : Jvm.MethodName)) ∈ BIG := List.mem_append_right _ (List.mem_append_right _ (List.mem_append_right _ (List.mem_append_right _ (List.mem_append_right _ (List.mem_append_right _ (List.mem_append_left _ (List.mem_of_getElem? (i := 4) rfl)))))))
theorem bw_245 : (Jvm.Cond.code ({ cls := "CommitDesk$Transaction", name := "partCount", desc := "()I" } : Jvm.MethodName) prog_2_method_4_code (1 : Nat) (Option.some Jvm.ClassFile.FieldType.int)) ∈ BIG := List.mem_append_right _ (List.mem_append_right _ (List.mem_append_right _ (List.mem_append_right _ (List.mem_append_right _ (List.mem_append_right _ (List.mem_append_left _ (List.mem_of_getElem? (i := 5) rfl)))))))
theorem bw_246 : (Jvm.Cond.methodLink "CommitDesk" (90 : Nat) ({ cls := "CommitDesk$Transaction", name := "addPart", desc := "()V" } : Jvm.MethodName)) ∈ BIG := List.mem_append_right _ (List.mem_append_right _ (List.mem_append_right _ (List.mem_append_right _ (List.mem_append_right _ (List.mem_append_right _ (List.mem_append_left _ (List.mem_of_getElem? (i := 6) rfl)))))))
theorem bw_247 : (Jvm.Cond.instanceMethod ({ cls := "CommitDesk$Transaction", name := "addPart", desc := "()V" } : Jvm.MethodName)) ∈ BIG := List.mem_append_right _ (List.mem_append_right _ (List.mem_append_right _ (List.mem_append_right _ (List.mem_append_right _ (List.mem_append_right _ (List.mem_append_left _ (List.mem_of_getElem? (i := 7) rfl)))))))
theorem bw_248 : (Jvm.Cond.selects "CommitDesk$Transaction" ({ cls := "CommitDesk$Transaction", name := "addPart", desc := "()V" } : Jvm.MethodName) ({ cls := "CommitDesk$Transaction", name := "addPart", desc := "()V" } : Jvm.MethodName)) ∈ BIG := List.mem_append_right _ (List.mem_append_right _ (List.mem_append_right _ (List.mem_append_right _ (List.mem_append_right _ (List.mem_append_right _ (List.mem_append_left _ (List.mem_of_getElem? (i := 8) rfl)))))))
theorem bw_249 : (Jvm.Cond.code ({ cls := "CommitDesk$Transaction", name := "addPart", desc := "()V" } : Jvm.MethodName) prog_2_method_14_code (1 : Nat) (Option.none : Option Jvm.ClassFile.FieldType)) ∈ BIG := List.mem_append_right _ (List.mem_append_right _ (List.mem_append_right _ (List.mem_append_right _ (List.mem_append_right _ (List.mem_append_right _ (List.mem_append_left _ (List.mem_of_getElem? (i := 9) rfl)))))))
theorem bw_250 : (Jvm.Cond.methodLink "CommitDeskLaw" (92 : Nat) ({ cls := "CommitDeskLaw", name := "back", desc := "(LCommitDesk;I)I" } : Jvm.MethodName)) ∈ BIG := List.mem_append_right _ (List.mem_append_right _ (List.mem_append_right _ (List.mem_append_right _ (List.mem_append_right _ (List.mem_append_right _ (List.mem_append_left _ (List.mem_of_getElem? (i := 10) rfl)))))))
theorem bw_251 : (Jvm.Cond.static ({ cls := "CommitDeskLaw", name := "back", desc := "(LCommitDesk;I)I" } : Jvm.MethodName)) ∈ BIG := List.mem_append_right _ (List.mem_append_right _ (List.mem_append_right _ (List.mem_append_right _ (List.mem_append_right _ (List.mem_append_right _ (List.mem_append_left _ (List.mem_of_getElem? (i := 11) rfl)))))))
theorem bw_252 : (Jvm.Cond.codeWith ({ cls := "CommitDeskLaw", name := "back", desc := "(LCommitDesk;I)I" } : Jvm.MethodName) method_7_code (3 : Nat) (Option.some Jvm.ClassFile.FieldType.int) [((0 : Nat), (5 : Nat), (8 : Nat), (13 : Nat)), ((0 : Nat), (5 : Nat), (11 : Nat), (15 : Nat)), ((0 : Nat), (5 : Nat), (14 : Nat), (23 : Nat))]) ∈ BIG := List.mem_append_right _ (List.mem_append_right _ (List.mem_append_right _ (List.mem_append_right _ (List.mem_append_right _ (List.mem_append_right _ (List.mem_append_left _ (List.mem_of_getElem? (i := 12) rfl)))))))
theorem bw_253 : (Jvm.Cond.methodLink "CommitDeskLaw" (33 : Nat) ({ cls := "CommitDesk", name := "back", desc := "(I)V" } : Jvm.MethodName)) ∈ BIG := List.mem_append_right _ (List.mem_append_right _ (List.mem_append_right _ (List.mem_append_right _ (List.mem_append_right _ (List.mem_append_right _ (List.mem_append_left _ (List.mem_of_getElem? (i := 13) rfl)))))))
theorem bw_254 : (Jvm.Cond.instanceMethod ({ cls := "CommitDesk", name := "back", desc := "(I)V" } : Jvm.MethodName)) ∈ BIG := List.mem_append_right _ (List.mem_append_right _ (List.mem_append_right _ (List.mem_append_right _ (List.mem_append_right _ (List.mem_append_right _ (List.mem_append_left _ (List.mem_of_getElem? (i := 14) rfl)))))))
theorem bw_255 : (Jvm.Cond.selects "CommitDesk" ({ cls := "CommitDesk", name := "back", desc := "(I)V" } : Jvm.MethodName) ({ cls := "CommitDesk", name := "back", desc := "(I)V" } : Jvm.MethodName)) ∈ BIG := List.mem_append_right _ (List.mem_append_right _ (List.mem_append_right _ (List.mem_append_right _ (List.mem_append_right _ (List.mem_append_right _ (List.mem_append_left _ (List.mem_of_getElem? (i := 15) rfl)))))))
theorem bw_256 : (Jvm.Cond.code ({ cls := "CommitDesk", name := "back", desc := "(I)V" } : Jvm.MethodName) prog_1_method_6_code (2 : Nat) (Option.none : Option Jvm.ClassFile.FieldType)) ∈ BIG := List.mem_append_right _ (List.mem_append_right _ (List.mem_append_right _ (List.mem_append_right _ (List.mem_append_right _ (List.mem_append_right _ (List.mem_append_left _ (List.mem_of_getElem? (i := 16) rfl)))))))
theorem bw_257 : (Jvm.Cond.methodLink "CommitDesk" (93 : Nat) ({ cls := "CommitDesk", name := "transactionWithSeveralParts", desc := "(I)LCommitDesk$Transaction;" } : Jvm.MethodName)) ∈ BIG := List.mem_append_right _ (List.mem_append_right _ (List.mem_append_right _ (List.mem_append_right _ (List.mem_append_right _ (List.mem_append_right _ (List.mem_append_left _ (List.mem_of_getElem? (i := 17) rfl)))))))
theorem bw_258 : (Jvm.Cond.instanceMethod ({ cls := "CommitDesk", name := "transactionWithSeveralParts", desc := "(I)LCommitDesk$Transaction;" } : Jvm.MethodName)) ∈ BIG := List.mem_append_right _ (List.mem_append_right _ (List.mem_append_right _ (List.mem_append_right _ (List.mem_append_right _ (List.mem_append_right _ (List.mem_append_left _ (List.mem_of_getElem? (i := 18) rfl)))))))
theorem bw_259 : (Jvm.Cond.code ({ cls := "CommitDesk", name := "transactionWithSeveralParts", desc := "(I)LCommitDesk$Transaction;" } : Jvm.MethodName) prog_1_method_19_code (3 : Nat) (Option.some (Jvm.ClassFile.FieldType.object "CommitDesk$Transaction"))) ∈ BIG := List.mem_append_right _ (List.mem_append_right _ (List.mem_append_right _ (List.mem_append_right _ (List.mem_append_right _ (List.mem_append_right _ (List.mem_append_left _ (List.mem_of_getElem? (i := 19) rfl)))))))
theorem bw_260 : (Jvm.Cond.methodLink "CommitDesk" (96 : Nat) ({ cls := "CommitDesk$Transaction", name := "dropLastPart", desc := "()V" } : Jvm.MethodName)) ∈ BIG := List.mem_append_right _ (List.mem_append_right _ (List.mem_append_right _ (List.mem_append_right _ (List.mem_append_right _ (List.mem_append_right _ (List.mem_append_left _ (List.mem_of_getElem? (i := 20) rfl)))))))
theorem bw_261 : (Jvm.Cond.instanceMethod ({ cls := "CommitDesk$Transaction", name := "dropLastPart", desc := "()V" } : Jvm.MethodName)) ∈ BIG := List.mem_append_right _ (List.mem_append_right _ (List.mem_append_right _ (List.mem_append_right _ (List.mem_append_right _ (List.mem_append_right _ (List.mem_append_left _ (List.mem_of_getElem? (i := 21) rfl)))))))
theorem bw_262 : (Jvm.Cond.selects "CommitDesk$Transaction" ({ cls := "CommitDesk$Transaction", name := "dropLastPart", desc := "()V" } : Jvm.MethodName) ({ cls := "CommitDesk$Transaction", name := "dropLastPart", desc := "()V" } : Jvm.MethodName)) ∈ BIG := List.mem_append_right _ (List.mem_append_right _ (List.mem_append_right _ (List.mem_append_right _ (List.mem_append_right _ (List.mem_append_right _ (List.mem_append_left _ (List.mem_of_getElem? (i := 22) rfl)))))))
theorem bw_263 : (Jvm.Cond.code ({ cls := "CommitDesk$Transaction", name := "dropLastPart", desc := "()V" } : Jvm.MethodName) prog_2_method_15_code (1 : Nat) (Option.none : Option Jvm.ClassFile.FieldType)) ∈ BIG := List.mem_append_right _ (List.mem_append_right _ (List.mem_append_right _ (List.mem_append_right _ (List.mem_append_right _ (List.mem_append_right _ (List.mem_append_left _ (List.mem_of_getElem? (i := 23) rfl)))))))
theorem bw_264 : (Jvm.Cond.methodLink "CommitDeskLaw" (95 : Nat) ({ cls := "CommitDeskLaw", name := "keep", desc := "(LCommitDesk;I)I" } : Jvm.MethodName)) ∈ BIG := List.mem_append_right _ (List.mem_append_right _ (List.mem_append_right _ (List.mem_append_right _ (List.mem_append_right _ (List.mem_append_right _ (List.mem_append_left _ (List.mem_of_getElem? (i := 24) rfl)))))))
theorem bw_265 : (Jvm.Cond.static ({ cls := "CommitDeskLaw", name := "keep", desc := "(LCommitDesk;I)I" } : Jvm.MethodName)) ∈ BIG := List.mem_append_right _ (List.mem_append_right _ (List.mem_append_right _ (List.mem_append_right _ (List.mem_append_right _ (List.mem_append_right _ (List.mem_append_left _ (List.mem_of_getElem? (i := 25) rfl)))))))
theorem bw_266 : (Jvm.Cond.codeWith ({ cls := "CommitDeskLaw", name := "keep", desc := "(LCommitDesk;I)I" } : Jvm.MethodName) method_8_code (3 : Nat) (Option.some Jvm.ClassFile.FieldType.int) [((0 : Nat), (5 : Nat), (8 : Nat), (13 : Nat)), ((0 : Nat), (5 : Nat), (11 : Nat), (15 : Nat)), ((0 : Nat), (5 : Nat), (14 : Nat), (23 : Nat))]) ∈ BIG := List.mem_append_right _ (List.mem_append_right _ (List.mem_append_right _ (List.mem_append_right _ (List.mem_append_right _ (List.mem_append_right _ (List.mem_append_left _ (List.mem_of_getElem? (i := 26) rfl)))))))
theorem bw_267 : (Jvm.Cond.methodLink "CommitDeskLaw" (36 : Nat) ({ cls := "CommitDesk", name := "keep", desc := "(I)V" } : Jvm.MethodName)) ∈ BIG := List.mem_append_right _ (List.mem_append_right _ (List.mem_append_right _ (List.mem_append_right _ (List.mem_append_right _ (List.mem_append_right _ (List.mem_append_left _ (List.mem_of_getElem? (i := 27) rfl)))))))
theorem bw_268 : (Jvm.Cond.instanceMethod ({ cls := "CommitDesk", name := "keep", desc := "(I)V" } : Jvm.MethodName)) ∈ BIG := List.mem_append_right _ (List.mem_append_right _ (List.mem_append_right _ (List.mem_append_right _ (List.mem_append_right _ (List.mem_append_right _ (List.mem_append_left _ (List.mem_of_getElem? (i := 28) rfl)))))))
theorem bw_269 : (Jvm.Cond.selects "CommitDesk" ({ cls := "CommitDesk", name := "keep", desc := "(I)V" } : Jvm.MethodName) ({ cls := "CommitDesk", name := "keep", desc := "(I)V" } : Jvm.MethodName)) ∈ BIG := List.mem_append_right _ (List.mem_append_right _ (List.mem_append_right _ (List.mem_append_right _ (List.mem_append_right _ (List.mem_append_right _ (List.mem_append_left _ (List.mem_of_getElem? (i := 29) rfl)))))))
theorem bw_270 : (Jvm.Cond.code ({ cls := "CommitDesk", name := "keep", desc := "(I)V" } : Jvm.MethodName) prog_1_method_7_code (2 : Nat) (Option.none : Option Jvm.ClassFile.FieldType)) ∈ BIG := List.mem_append_right _ (List.mem_append_right _ (List.mem_append_right _ (List.mem_append_right _ (List.mem_append_right _ (List.mem_append_right _ (List.mem_append_left _ (List.mem_of_getElem? (i := 30) rfl)))))))
theorem bw_271 : (Jvm.Cond.methodLink "CommitDesk" (99 : Nat) ({ cls := "CommitDesk$Transaction", name := "mergeLastPart", desc := "()V" } : Jvm.MethodName)) ∈ BIG := List.mem_append_right _ (List.mem_append_right _ (List.mem_append_right _ (List.mem_append_right _ (List.mem_append_right _ (List.mem_append_right _ (List.mem_append_left _ (List.mem_of_getElem? (i := 31) rfl)))))))
theorem bw_272 : (Jvm.Cond.instanceMethod ({ cls := "CommitDesk$Transaction", name := "mergeLastPart", desc := "()V" } : Jvm.MethodName)) ∈ BIG := List.mem_append_right _ (List.mem_append_right _ (List.mem_append_right _ (List.mem_append_right _ (List.mem_append_right _ (List.mem_append_right _ (List.mem_append_left _ (List.mem_of_getElem? (i := 32) rfl)))))))
theorem bw_273 : (Jvm.Cond.selects "CommitDesk$Transaction" ({ cls := "CommitDesk$Transaction", name := "mergeLastPart", desc := "()V" } : Jvm.MethodName) ({ cls := "CommitDesk$Transaction", name := "mergeLastPart", desc := "()V" } : Jvm.MethodName)) ∈ BIG := List.mem_append_right _ (List.mem_append_right _ (List.mem_append_right _ (List.mem_append_right _ (List.mem_append_right _ (List.mem_append_right _ (List.mem_append_left _ (List.mem_of_getElem? (i := 33) rfl)))))))
theorem bw_274 : (Jvm.Cond.code ({ cls := "CommitDesk$Transaction", name := "mergeLastPart", desc := "()V" } : Jvm.MethodName) prog_2_method_16_code (3 : Nat) (Option.none : Option Jvm.ClassFile.FieldType)) ∈ BIG := List.mem_append_right _ (List.mem_append_right _ (List.mem_append_right _ (List.mem_append_right _ (List.mem_append_right _ (List.mem_append_right _ (List.mem_append_left _ (List.mem_of_getElem? (i := 34) rfl)))))))
theorem bw_275 : (Jvm.Cond.methodLink "CommitDesk$Transaction" (48 : Nat) ({ cls := "CommitDesk$Transaction", name := "dropLastPart", desc := "()V" } : Jvm.MethodName)) ∈ BIG := List.mem_append_right _ (List.mem_append_right _ (List.mem_append_right _ (List.mem_append_right _ (List.mem_append_right _ (List.mem_append_right _ (List.mem_append_left _ (List.mem_of_getElem? (i := 35) rfl)))))))
theorem bw_276 : (Jvm.Cond.methodLink "CommitDeskLaw" (98 : Nat) ({ cls := "CommitDeskLaw", name := "done", desc := "(LCommitDesk;I[J)I" } : Jvm.MethodName)) ∈ BIG := List.mem_append_right _ (List.mem_append_right _ (List.mem_append_right _ (List.mem_append_right _ (List.mem_append_right _ (List.mem_append_right _ (List.mem_append_left _ (List.mem_of_getElem? (i := 36) rfl)))))))
theorem bw_277 : (Jvm.Cond.static ({ cls := "CommitDeskLaw", name := "done", desc := "(LCommitDesk;I[J)I" } : Jvm.MethodName)) ∈ BIG := List.mem_append_right _ (List.mem_append_right _ (List.mem_append_right _ (List.mem_append_right _ (List.mem_append_right _ (List.mem_append_right _ (List.mem_append_left _ (List.mem_of_getElem? (i := 37) rfl)))))))
theorem bw_278 : (Jvm.Cond.codeWith ({ cls := "CommitDeskLaw", name := "done", desc := "(LCommitDesk;I[J)I" } : Jvm.MethodName) method_9_code (4 : Nat) (Option.some Jvm.ClassFile.FieldType.int) [((0 : Nat), (16 : Nat), (19 : Nat), (13 : Nat)), ((0 : Nat), (16 : Nat), (22 : Nat), (15 : Nat))]) ∈ BIG := List.mem_append_right _ (List.mem_append_right _ (List.mem_append_right _ (List.mem_append_right _ (List.mem_append_right _ (List.mem_append_right _ (List.mem_append_left _ (List.mem_of_getElem? (i := 38) rfl)))))))
theorem bw_279 : (Jvm.Cond.methodLink "CommitDeskLaw" (39 : Nat) ({ cls := "CommitDesk", name := "done", desc := "(I)Z" } : Jvm.MethodName)) ∈ BIG := List.mem_append_right _ (List.mem_append_right _ (List.mem_append_right _ (List.mem_append_right _ (List.mem_append_right _ (List.mem_append_right _ (List.mem_append_left _ (List.mem_of_getElem? (i := 39) rfl)))))))
theorem bw_280 : (Jvm.Cond.instanceMethod ({ cls := "CommitDesk", name := "done", desc := "(I)Z" } : Jvm.MethodName)) ∈ BIG := List.mem_append_right _ (List.mem_append_right _ (List.mem_append_right _ (List.mem_append_right _ (List.mem_append_right _ (List.mem_append_right _ (List.mem_append_right _ (List.mem_append_left _ (List.mem_of_getElem? (i := 0) rfl))))))))
theorem bw_281 : (Jvm.Cond.selects "CommitDesk" ({ cls := "CommitDesk", name := "done", desc := "(I)Z" } : Jvm.MethodName) ({ cls := "CommitDesk", name := "done", desc := "(I)Z" } : Jvm.MethodName)) ∈ BIG := List.mem_append_right _ (List.mem_append_right _ (List.mem_append_right _ (List.mem_append_right _ (List.mem_append_right _ (List.mem_append_right _ (List.mem_append_right _ (List.mem_append_left _ (List.mem_of_getElem? (i := 1) rfl))))))))
theorem bw_282 : (Jvm.Cond.code ({ cls := "CommitDesk", name := "done", desc := "(I)Z" } : Jvm.MethodName) prog_1_method_8_code (5 : Nat) (Option.some Jvm.ClassFile.FieldType.boolean)) ∈ BIG := List.mem_append_right _ (List.mem_append_right _ (List.mem_append_right _ (List.mem_append_right _ (List.mem_append_right _ (List.mem_append_right _ (List.mem_append_right _ (List.mem_append_left _ (List.mem_of_getElem? (i := 2) rfl))))))))
theorem bw_283 : (Jvm.Cond.methodLink "CommitDesk" (105 : Nat) ({ cls := "CommitDesk", name := "change", desc := "(IJ)V" } : Jvm.MethodName)) ∈ BIG := List.mem_append_right _ (List.mem_append_right _ (List.mem_append_right _ (List.mem_append_right _ (List.mem_append_right _ (List.mem_append_right _ (List.mem_append_right _ (List.mem_append_left _ (List.mem_of_getElem? (i := 3) rfl))))))))
theorem bw_284 : (Jvm.Cond.instanceMethod ({ cls := "CommitDesk", name := "change", desc := "(IJ)V" } : Jvm.MethodName)) ∈ BIG := List.mem_append_right _ (List.mem_append_right _ (List.mem_append_right _ (List.mem_append_right _ (List.mem_append_right _ (List.mem_append_right _ (List.mem_append_right _ (List.mem_append_left _ (List.mem_of_getElem? (i := 4) rfl))))))))
theorem bw_285 : (Jvm.Cond.code ({ cls := "CommitDesk", name := "change", desc := "(IJ)V" } : Jvm.MethodName) prog_1_method_21_code (5 : Nat) (Option.none : Option Jvm.ClassFile.FieldType)) ∈ BIG := List.mem_append_right _ (List.mem_append_right _ (List.mem_append_right _ (List.mem_append_right _ (List.mem_append_right _ (List.mem_append_right _ (List.mem_append_right _ (List.mem_append_left _ (List.mem_of_getElem? (i := 5) rfl))))))))
theorem bw_286 : (Jvm.Cond.methodLink "CommitDesk" (136 : Nat) ({ cls := "CommitDesk$Transaction", name := "noteChange", desc := "(I)V" } : Jvm.MethodName)) ∈ BIG := List.mem_append_right _ (List.mem_append_right _ (List.mem_append_right _ (List.mem_append_right _ (List.mem_append_right _ (List.mem_append_right _ (List.mem_append_right _ (List.mem_append_left _ (List.mem_of_getElem? (i := 6) rfl))))))))
theorem bw_287 : (Jvm.Cond.instanceMethod ({ cls := "CommitDesk$Transaction", name := "noteChange", desc := "(I)V" } : Jvm.MethodName)) ∈ BIG := List.mem_append_right _ (List.mem_append_right _ (List.mem_append_right _ (List.mem_append_right _ (List.mem_append_right _ (List.mem_append_right _ (List.mem_append_right _ (List.mem_append_left _ (List.mem_of_getElem? (i := 7) rfl))))))))
theorem bw_288 : (Jvm.Cond.selects "CommitDesk$Transaction" ({ cls := "CommitDesk$Transaction", name := "noteChange", desc := "(I)V" } : Jvm.MethodName) ({ cls := "CommitDesk$Transaction", name := "noteChange", desc := "(I)V" } : Jvm.MethodName)) ∈ BIG := List.mem_append_right _ (List.mem_append_right _ (List.mem_append_right _ (List.mem_append_right _ (List.mem_append_right _ (List.mem_append_right _ (List.mem_append_right _ (List.mem_append_left _ (List.mem_of_getElem? (i := 8) rfl))))))))
theorem bw_289 : (Jvm.Cond.code ({ cls := "CommitDesk$Transaction", name := "noteChange", desc := "(I)V" } : Jvm.MethodName) prog_2_method_10_code (2 : Nat) (Option.none : Option Jvm.ClassFile.FieldType)) ∈ BIG := List.mem_append_right _ (List.mem_append_right _ (List.mem_append_right _ (List.mem_append_right _ (List.mem_append_right _ (List.mem_append_right _ (List.mem_append_right _ (List.mem_append_left _ (List.mem_of_getElem? (i := 9) rfl))))))))
theorem bw_290 : (Jvm.Cond.methodLink "CommitDeskLaw" (101 : Nat) ({ cls := "CommitDeskLaw", name := "leave", desc := "(LCommitDesk;I)I" } : Jvm.MethodName)) ∈ BIG := List.mem_append_right _ (List.mem_append_right _ (List.mem_append_right _ (List.mem_append_right _ (List.mem_append_right _ (List.mem_append_right _ (List.mem_append_right _ (List.mem_append_left _ (List.mem_of_getElem? (i := 10) rfl))))))))
theorem bw_291 : (Jvm.Cond.static ({ cls := "CommitDeskLaw", name := "leave", desc := "(LCommitDesk;I)I" } : Jvm.MethodName)) ∈ BIG := List.mem_append_right _ (List.mem_append_right _ (List.mem_append_right _ (List.mem_append_right _ (List.mem_append_right _ (List.mem_append_right _ (List.mem_append_right _ (List.mem_append_left _ (List.mem_of_getElem? (i := 11) rfl))))))))
theorem bw_292 : (Jvm.Cond.codeWith ({ cls := "CommitDeskLaw", name := "leave", desc := "(LCommitDesk;I)I" } : Jvm.MethodName) method_10_code (3 : Nat) (Option.some Jvm.ClassFile.FieldType.int) [((0 : Nat), (5 : Nat), (8 : Nat), (13 : Nat)), ((0 : Nat), (5 : Nat), (11 : Nat), (15 : Nat))]) ∈ BIG := List.mem_append_right _ (List.mem_append_right _ (List.mem_append_right _ (List.mem_append_right _ (List.mem_append_right _ (List.mem_append_right _ (List.mem_append_right _ (List.mem_append_left _ (List.mem_of_getElem? (i := 12) rfl))))))))
theorem bw_293 : (Jvm.Cond.methodLink "CommitDeskLaw" (43 : Nat) ({ cls := "CommitDesk", name := "leave", desc := "(I)V" } : Jvm.MethodName)) ∈ BIG := List.mem_append_right _ (List.mem_append_right _ (List.mem_append_right _ (List.mem_append_right _ (List.mem_append_right _ (List.mem_append_right _ (List.mem_append_right _ (List.mem_append_left _ (List.mem_of_getElem? (i := 13) rfl))))))))
theorem bw_294 : (Jvm.Cond.instanceMethod ({ cls := "CommitDesk", name := "leave", desc := "(I)V" } : Jvm.MethodName)) ∈ BIG := List.mem_append_right _ (List.mem_append_right _ (List.mem_append_right _ (List.mem_append_right _ (List.mem_append_right _ (List.mem_append_right _ (List.mem_append_right _ (List.mem_append_left _ (List.mem_of_getElem? (i := 14) rfl))))))))
theorem bw_295 : (Jvm.Cond.selects "CommitDesk" ({ cls := "CommitDesk", name := "leave", desc := "(I)V" } : Jvm.MethodName) ({ cls := "CommitDesk", name := "leave", desc := "(I)V" } : Jvm.MethodName)) ∈ BIG := List.mem_append_right _ (List.mem_append_right _ (List.mem_append_right _ (List.mem_append_right _ (List.mem_append_right _ (List.mem_append_right _ (List.mem_append_right _ (List.mem_append_left _ (List.mem_of_getElem? (i := 15) rfl))))))))
theorem bw_296 : (Jvm.Cond.code ({ cls := "CommitDesk", name := "leave", desc := "(I)V" } : Jvm.MethodName) prog_1_method_9_code (2 : Nat) (Option.none : Option Jvm.ClassFile.FieldType)) ∈ BIG := List.mem_append_right _ (List.mem_append_right _ (List.mem_append_right _ (List.mem_append_right _ (List.mem_append_right _ (List.mem_append_right _ (List.mem_append_right _ (List.mem_append_left _ (List.mem_of_getElem? (i := 16) rfl))))))))
theorem bw_297 : (Jvm.Cond.methodLink "CommitDeskLaw" (104 : Nat) ({ cls := "CommitDeskLaw", name := "set", desc := "(LCommitDesk;IJ)I" } : Jvm.MethodName)) ∈ BIG := List.mem_append_right _ (List.mem_append_right _ (List.mem_append_right _ (List.mem_append_right _ (List.mem_append_right _ (List.mem_append_right _ (List.mem_append_right _ (List.mem_append_left _ (List.mem_of_getElem? (i := 17) rfl))))))))
theorem bw_298 : (Jvm.Cond.static ({ cls := "CommitDeskLaw", name := "set", desc := "(LCommitDesk;IJ)I" } : Jvm.MethodName)) ∈ BIG := List.mem_append_right _ (List.mem_append_right _ (List.mem_append_right _ (List.mem_append_right _ (List.mem_append_right _ (List.mem_append_right _ (List.mem_append_right _ (List.mem_append_left _ (List.mem_of_getElem? (i := 18) rfl))))))))
theorem bw_299 : (Jvm.Cond.codeWith ({ cls := "CommitDeskLaw", name := "set", desc := "(LCommitDesk;IJ)I" } : Jvm.MethodName) method_11_code (5 : Nat) (Option.some Jvm.ClassFile.FieldType.int) [((0 : Nat), (6 : Nat), (9 : Nat), (21 : Nat))]) ∈ BIG := List.mem_append_right _ (List.mem_append_right _ (List.mem_append_right _ (List.mem_append_right _ (List.mem_append_right _ (List.mem_append_right _ (List.mem_append_right _ (List.mem_append_left _ (List.mem_of_getElem? (i := 19) rfl))))))))
theorem bw_300 : (Jvm.Cond.methodLink "CommitDeskLaw" (46 : Nat) ({ cls := "CommitDesk", name := "set", desc := "(IJ)V" } : Jvm.MethodName)) ∈ BIG := List.mem_append_right _ (List.mem_append_right _ (List.mem_append_right _ (List.mem_append_right _ (List.mem_append_right _ (List.mem_append_right _ (List.mem_append_right _ (List.mem_append_left _ (List.mem_of_getElem? (i := 20) rfl))))))))
theorem bw_301 : (Jvm.Cond.instanceMethod ({ cls := "CommitDesk", name := "set", desc := "(IJ)V" } : Jvm.MethodName)) ∈ BIG := List.mem_append_right _ (List.mem_append_right _ (List.mem_append_right _ (List.mem_append_right _ (List.mem_append_right _ (List.mem_append_right _ (List.mem_append_right _ (List.mem_append_left _ (List.mem_of_getElem? (i := 21) rfl))))))))
theorem bw_302 : (Jvm.Cond.selects "CommitDesk" ({ cls := "CommitDesk", name := "set", desc := "(IJ)V" } : Jvm.MethodName) ({ cls := "CommitDesk", name := "set", desc := "(IJ)V" } : Jvm.MethodName)) ∈ BIG := List.mem_append_right _ (List.mem_append_right _ (List.mem_append_right _ (List.mem_append_right _ (List.mem_append_right _ (List.mem_append_right _ (List.mem_append_right _ (List.mem_append_left _ (List.mem_of_getElem? (i := 22) rfl))))))))
theorem bw_303 : (Jvm.Cond.code ({ cls := "CommitDesk", name := "set", desc := "(IJ)V" } : Jvm.MethodName) prog_1_method_10_code (4 : Nat) (Option.none : Option Jvm.ClassFile.FieldType)) ∈ BIG := List.mem_append_right _ (List.mem_append_right _ (List.mem_append_right _ (List.mem_append_right _ (List.mem_append_right _ (List.mem_append_right _ (List.mem_append_right _ (List.mem_append_left _ (List.mem_of_getElem? (i := 23) rfl))))))))
theorem bw_304 : (Jvm.Cond.methodLink "CommitDeskLaw" (108 : Nat) ({ cls := "CommitDeskLaw", name := "cell", desc := "(LCommitDesk;I[J)I" } : Jvm.MethodName)) ∈ BIG := List.mem_append_right _ (List.mem_append_right _ (List.mem_append_right _ (List.mem_append_right _ (List.mem_append_right _ (List.mem_append_right _ (List.mem_append_right _ (List.mem_append_left _ (List.mem_of_getElem? (i := 24) rfl))))))))
theorem bw_305 : (Jvm.Cond.static ({ cls := "CommitDeskLaw", name := "cell", desc := "(LCommitDesk;I[J)I" } : Jvm.MethodName)) ∈ BIG := List.mem_append_right _ (List.mem_append_right _ (List.mem_append_right _ (List.mem_append_right _ (List.mem_append_right _ (List.mem_append_right _ (List.mem_append_right _ (List.mem_append_left _ (List.mem_of_getElem? (i := 25) rfl))))))))
theorem bw_306 : (Jvm.Cond.codeWith ({ cls := "CommitDeskLaw", name := "cell", desc := "(LCommitDesk;I[J)I" } : Jvm.MethodName) method_12_code (4 : Nat) (Option.some Jvm.ClassFile.FieldType.int) [((0 : Nat), (8 : Nat), (11 : Nat), (21 : Nat))]) ∈ BIG := List.mem_append_right _ (List.mem_append_right _ (List.mem_append_right _ (List.mem_append_right _ (List.mem_append_right _ (List.mem_append_right _ (List.mem_append_right _ (List.mem_append_left _ (List.mem_of_getElem? (i := 26) rfl))))))))
theorem bw_307 : (Jvm.Cond.methodLink "CommitDeskLaw" (50 : Nat) ({ cls := "CommitDesk", name := "cell", desc := "(I)J" } : Jvm.MethodName)) ∈ BIG := List.mem_append_right _ (List.mem_append_right _ (List.mem_append_right _ (List.mem_append_right _ (List.mem_append_right _ (List.mem_append_right _ (List.mem_append_right _ (List.mem_append_left _ (List.mem_of_getElem? (i := 27) rfl))))))))
theorem bw_308 : (Jvm.Cond.instanceMethod ({ cls := "CommitDesk", name := "cell", desc := "(I)J" } : Jvm.MethodName)) ∈ BIG := List.mem_append_right _ (List.mem_append_right _ (List.mem_append_right _ (List.mem_append_right _ (List.mem_append_right _ (List.mem_append_right _ (List.mem_append_right _ (List.mem_append_left _ (List.mem_of_getElem? (i := 28) rfl))))))))
theorem bw_309 : (Jvm.Cond.selects "CommitDesk" ({ cls := "CommitDesk", name := "cell", desc := "(I)J" } : Jvm.MethodName) ({ cls := "CommitDesk", name := "cell", desc := "(I)J" } : Jvm.MethodName)) ∈ BIG := List.mem_append_right _ (List.mem_append_right _ (List.mem_append_right _ (List.mem_append_right _ (List.mem_append_right _ (List.mem_append_right _ (List.mem_append_right _ (List.mem_append_left _ (List.mem_of_getElem? (i := 29) rfl))))))))
theorem bw_310 : (Jvm.Cond.code ({ cls := "CommitDesk", name := "cell", desc := "(I)J" } : Jvm.MethodName) prog_1_method_11_code (2 : Nat) (Option.some Jvm.ClassFile.FieldType.long)) ∈ BIG := List.mem_append_right _ (List.mem_append_right _ (List.mem_append_right _ (List.mem_append_right _ (List.mem_append_right _ (List.mem_append_right _ (List.mem_append_right _ (List.mem_append_left _ (List.mem_of_getElem? (i := 30) rfl))))))))
theorem bw_311 : (Jvm.Cond.methodLink "CommitDeskLaw" (111 : Nat) ({ cls := "CommitDeskLaw", name := "changed", desc := "(LCommitDesk;I[J)I" } : Jvm.MethodName)) ∈ BIG := List.mem_append_right _ (List.mem_append_right _ (List.mem_append_right _ (List.mem_append_right _ (List.mem_append_right _ (List.mem_append_right _ (List.mem_append_right _ (List.mem_append_left _ (List.mem_of_getElem? (i := 31) rfl))))))))
theorem bw_312 : (Jvm.Cond.static ({ cls := "CommitDeskLaw", name := "changed", desc := "(LCommitDesk;I[J)I" } : Jvm.MethodName)) ∈ BIG := List.mem_append_right _ (List.mem_append_right _ (List.mem_append_right _ (List.mem_append_right _ (List.mem_append_right _ (List.mem_append_right _ (List.mem_append_right _ (List.mem_append_left _ (List.mem_of_getElem? (i := 32) rfl))))))))
theorem bw_313 : (Jvm.Cond.codeWith ({ cls := "CommitDeskLaw", name := "changed", desc := "(LCommitDesk;I[J)I" } : Jvm.MethodName) method_13_code (4 : Nat) (Option.some Jvm.ClassFile.FieldType.int) [((0 : Nat), (9 : Nat), (12 : Nat), (21 : Nat))]) ∈ BIG := List.mem_append_right _ (List.mem_append_right _ (List.mem_append_right _ (List.mem_append_right _ (List.mem_append_right _ (List.mem_append_right _ (List.mem_append_right _ (List.mem_append_left _ (List.mem_of_getElem? (i := 33) rfl))))))))
theorem bw_314 : (Jvm.Cond.methodLink "CommitDeskLaw" (54 : Nat) ({ cls := "CommitDesk", name := "changed", desc := "(I)I" } : Jvm.MethodName)) ∈ BIG := List.mem_append_right _ (List.mem_append_right _ (List.mem_append_right _ (List.mem_append_right _ (List.mem_append_right _ (List.mem_append_right _ (List.mem_append_right _ (List.mem_append_left _ (List.mem_of_getElem? (i := 34) rfl))))))))
theorem bw_315 : (Jvm.Cond.instanceMethod ({ cls := "CommitDesk", name := "changed", desc := "(I)I" } : Jvm.MethodName)) ∈ BIG := List.mem_append_right _ (List.mem_append_right _ (List.mem_append_right _ (List.mem_append_right _ (List.mem_append_right _ (List.mem_append_right _ (List.mem_append_right _ (List.mem_append_left _ (List.mem_of_getElem? (i := 35) rfl))))))))
theorem bw_316 : (Jvm.Cond.selects "CommitDesk" ({ cls := "CommitDesk", name := "changed", desc := "(I)I" } : Jvm.MethodName) ({ cls := "CommitDesk", name := "changed", desc := "(I)I" } : Jvm.MethodName)) ∈ BIG := List.mem_append_right _ (List.mem_append_right _ (List.mem_append_right _ (List.mem_append_right _ (List.mem_append_right _ (List.mem_append_right _ (List.mem_append_right _ (List.mem_append_left _ (List.mem_of_getElem? (i := 36) rfl))))))))
theorem bw_317 : (Jvm.Cond.code ({ cls := "CommitDesk", name := "changed", desc := "(I)I" } : Jvm.MethodName) prog_1_method_12_code (2 : Nat) (Option.some Jvm.ClassFile.FieldType.int)) ∈ BIG := List.mem_append_right _ (List.mem_append_right _ (List.mem_append_right _ (List.mem_append_right _ (List.mem_append_right _ (List.mem_append_right _ (List.mem_append_right _ (List.mem_append_left _ (List.mem_of_getElem? (i := 37) rfl))))))))
theorem bw_318 : (Jvm.Cond.methodLink "CommitDeskLaw" (114 : Nat) ({ cls := "CommitDeskLaw", name := "count", desc := "(LCommitDesk;II[J)I" } : Jvm.MethodName)) ∈ BIG := List.mem_append_right _ (List.mem_append_right _ (List.mem_append_right _ (List.mem_append_right _ (List.mem_append_right _ (List.mem_append_right _ (List.mem_append_right _ (List.mem_append_left _ (List.mem_of_getElem? (i := 38) rfl))))))))
theorem bw_319 : (Jvm.Cond.static ({ cls := "CommitDeskLaw", name := "count", desc := "(LCommitDesk;II[J)I" } : Jvm.MethodName)) ∈ BIG := List.mem_append_right _ (List.mem_append_right _ (List.mem_append_right _ (List.mem_append_right _ (List.mem_append_right _ (List.mem_append_right _ (List.mem_append_right _ (List.mem_append_left _ (List.mem_of_getElem? (i := 39) rfl))))))))
theorem bw_320 : (Jvm.Cond.codeWith ({ cls := "CommitDeskLaw", name := "count", desc := "(LCommitDesk;II[J)I" } : Jvm.MethodName) method_14_code (5 : Nat) (Option.some Jvm.ClassFile.FieldType.int) [((0 : Nat), (10 : Nat), (13 : Nat), (13 : Nat)), ((0 : Nat), (10 : Nat), (17 : Nat), (15 : Nat))]) ∈ BIG := List.mem_append_right _ (List.mem_append_right _ (List.mem_append_right _ (List.mem_append_right _ (List.mem_append_right _ (List.mem_append_right _ (List.mem_append_right _ (List.mem_append_right _ (List.mem_append_left _ (List.mem_of_getElem? (i := 0) rfl)))))))))
theorem bw_321 : (Jvm.Cond.methodLink "CommitDeskLaw" (57 : Nat) ({ cls := "CommitDesk", name := "count", desc := "(II)I" } : Jvm.MethodName)) ∈ BIG := List.mem_append_right _ (List.mem_append_right _ (List.mem_append_right _ (List.mem_append_right _ (List.mem_append_right _ (List.mem_append_right _ (List.mem_append_right _ (List.mem_append_right _ (List.mem_append_left _ (List.mem_of_getElem? (i := 1) rfl)))))))))
theorem bw_322 : (Jvm.Cond.instanceMethod ({ cls := "CommitDesk", name := "count", desc := "(II)I" } : Jvm.MethodName)) ∈ BIG := List.mem_append_right _ (List.mem_append_right _ (List.mem_append_right _ (List.mem_append_right _ (List.mem_append_right _ (List.mem_append_right _ (List.mem_append_right _ (List.mem_append_right _ (List.mem_append_left _ (List.mem_of_getElem? (i := 2) rfl)))))))))
theorem bw_323 : (Jvm.Cond.selects "CommitDesk" ({ cls := "CommitDesk", name := "count", desc := "(II)I" } : Jvm.MethodName) ({ cls := "CommitDesk", name := "count", desc := "(II)I" } : Jvm.MethodName)) ∈ BIG := List.mem_append_right _ (List.mem_append_right _ (List.mem_append_right _ (List.mem_append_right _ (List.mem_append_right _ (List.mem_append_right _ (List.mem_append_right _ (List.mem_append_right _ (List.mem_append_left _ (List.mem_of_getElem? (i := 3) rfl)))))))))
theorem bw_324 : (Jvm.Cond.code ({ cls := "CommitDesk", name := "count", desc := "(II)I" } : Jvm.MethodName) prog_1_method_13_code (4 : Nat) (Option.some Jvm.ClassFile.FieldType.int)) ∈ BIG := List.mem_append_right _ (List.mem_append_right _ (List.mem_append_right _ (List.mem_append_right _ (List.mem_append_right _ (List.mem_append_right _ (List.mem_append_right _ (List.mem_append_right _ (List.mem_append_left _ (List.mem_of_getElem? (i := 4) rfl)))))))))
theorem bw_325 : (Jvm.Cond.methodLink "CommitDesk" (116 : Nat) ({ cls := "CommitDesk$Transaction", name := "readCount", desc := "()I" } : Jvm.MethodName)) ∈ BIG := List.mem_append_right _ (List.mem_append_right _ (List.mem_append_right _ (List.mem_append_right _ (List.mem_append_right _ (List.mem_append_right _ (List.mem_append_right _ (List.mem_append_right _ (List.mem_append_left _ (List.mem_of_getElem? (i := 5) rfl)))))))))
theorem bw_326 : (Jvm.Cond.instanceMethod ({ cls := "CommitDesk$Transaction", name := "readCount", desc := "()I" } : Jvm.MethodName)) ∈ BIG := List.mem_append_right _ (List.mem_append_right _ (List.mem_append_right _ (List.mem_append_right _ (List.mem_append_right _ (List.mem_append_right _ (List.mem_append_right _ (List.mem_append_right _ (List.mem_append_left _ (List.mem_of_getElem? (i := 6) rfl)))))))))
theorem bw_327 : (Jvm.Cond.selects "CommitDesk$Transaction" ({ cls := "CommitDesk$Transaction", name := "readCount", desc := "()I" } : Jvm.MethodName) ({ cls := "CommitDesk$Transaction", name := "readCount", desc := "()I" } : Jvm.MethodName)) ∈ BIG := List.mem_append_right _ (List.mem_append_right _ (List.mem_append_right _ (List.mem_append_right _ (List.mem_append_right _ (List.mem_append_right _ (List.mem_append_right _ (List.mem_append_right _ (List.mem_append_left _ (List.mem_of_getElem? (i := 7) rfl)))))))))
theorem bw_328 : (Jvm.Cond.code ({ cls := "CommitDesk$Transaction", name := "readCount", desc := "()I" } : Jvm.MethodName) prog_2_method_5_code (1 : Nat) (Option.some Jvm.ClassFile.FieldType.int)) ∈ BIG := List.mem_append_right _ (List.mem_append_right _ (List.mem_append_right _ (List.mem_append_right _ (List.mem_append_right _ (List.mem_append_right _ (List.mem_append_right _ (List.mem_append_right _ (List.mem_append_left _ (List.mem_of_getElem? (i := 8) rfl)))))))))
theorem bw_329 : (Jvm.Cond.methodLink "CommitDesk$Transaction" (34 : Nat) ({ cls := "java/lang/Integer", name := "bitCount", desc := "(I)I" } : Jvm.MethodName)) ∈ BIG := List.mem_append_right _ (List.mem_append_right _ (List.mem_append_right _ (List.mem_append_right _ (List.mem_append_right _ (List.mem_append_right _ (List.mem_append_right _ (List.mem_append_right _ (List.mem_append_left _ (List.mem_of_getElem? (i := 9) rfl)))))))))
theorem bw_330 : (Jvm.Cond.static ({ cls := "java/lang/Integer", name := "bitCount", desc := "(I)I" } : Jvm.MethodName)) ∈ BIG := List.mem_append_right _ (List.mem_append_right _ (List.mem_append_right _ (List.mem_append_right _ (List.mem_append_right _ (List.mem_append_right _ (List.mem_append_right _ (List.mem_append_right _ (List.mem_append_left _ (List.mem_of_getElem? (i := 10) rfl)))))))))
theorem bw_331 : (Jvm.Cond.code ({ cls := "java/lang/Integer", name := "bitCount", desc := "(I)I" } : Jvm.MethodName) prog_9_method_49_code (1 : Nat) (Option.some Jvm.ClassFile.FieldType.int)) ∈ BIG := List.mem_append_right _ (List.mem_append_right _ (List.mem_append_right _ (List.mem_append_right _ (List.mem_append_right _ (List.mem_append_right _ (List.mem_append_right _ (List.mem_append_right _ (List.mem_append_left _ (List.mem_of_getElem? (i := 11) rfl)))))))))
theorem bw_332 : (Jvm.Cond.constant "java/lang/Integer" (265 : Nat) (1431655765 : Int32)) ∈ BIG := List.mem_append_right _ (List.mem_append_right _ (List.mem_append_right _ (List.mem_append_right _ (List.mem_append_right _ (List.mem_append_right _ (List.mem_append_right _ (List.mem_append_right _ (List.mem_append_left _ (List.mem_of_getElem? (i := 12) rfl)))))))))
theorem bw_333 : (Jvm.Cond.constant "java/lang/Integer" (266 : Nat) (858993459 : Int32)) ∈ BIG := List.mem_append_right _ (List.mem_append_right _ (List.mem_append_right _ (List.mem_append_right _ (List.mem_append_right _ (List.mem_append_right _ (List.mem_append_right _ (List.mem_append_right _ (List.mem_append_left _ (List.mem_of_getElem? (i := 13) rfl)))))))))
theorem bw_334 : (Jvm.Cond.constant "java/lang/Integer" (267 : Nat) (252645135 : Int32)) ∈ BIG := List.mem_append_right _ (List.mem_append_right _ (List.mem_append_right _ (List.mem_append_right _ (List.mem_append_right _ (List.mem_append_right _ (List.mem_append_right _ (List.mem_append_right _ (List.mem_append_left _ (List.mem_of_getElem? (i := 14) rfl)))))))))
theorem bw_335 : (Jvm.Cond.methodLink "CommitDesk" (119 : Nat) ({ cls := "CommitDesk$Transaction", name := "writtenCount", desc := "()I" } : Jvm.MethodName)) ∈ BIG := List.mem_append_right _ (List.mem_append_right _ (List.mem_append_right _ (List.mem_append_right _ (List.mem_append_right _ (List.mem_append_right _ (List.mem_append_right _ (List.mem_append_right _ (List.mem_append_left _ (List.mem_of_getElem? (i := 15) rfl)))))))))
theorem bw_336 : (Jvm.Cond.instanceMethod ({ cls := "CommitDesk$Transaction", name := "writtenCount", desc := "()I" } : Jvm.MethodName)) ∈ BIG := List.mem_append_right _ (List.mem_append_right _ (List.mem_append_right _ (List.mem_append_right _ (List.mem_append_right _ (List.mem_append_right _ (List.mem_append_right _ (List.mem_append_right _ (List.mem_append_left _ (List.mem_of_getElem? (i := 16) rfl)))))))))
theorem bw_337 : (Jvm.Cond.selects "CommitDesk$Transaction" ({ cls := "CommitDesk$Transaction", name := "writtenCount", desc := "()I" } : Jvm.MethodName) ({ cls := "CommitDesk$Transaction", name := "writtenCount", desc := "()I" } : Jvm.MethodName)) ∈ BIG := List.mem_append_right _ (List.mem_append_right _ (List.mem_append_right _ (List.mem_append_right _ (List.mem_append_right _ (List.mem_append_right _ (List.mem_append_right _ (List.mem_append_right _ (List.mem_append_left _ (List.mem_of_getElem? (i := 17) rfl)))))))))
theorem bw_338 : (Jvm.Cond.code ({ cls := "CommitDesk$Transaction", name := "writtenCount", desc := "()I" } : Jvm.MethodName) prog_2_method_6_code (3 : Nat) (Option.some Jvm.ClassFile.FieldType.int)) ∈ BIG := List.mem_append_right _ (List.mem_append_right _ (List.mem_append_right _ (List.mem_append_right _ (List.mem_append_right _ (List.mem_append_right _ (List.mem_append_right _ (List.mem_append_right _ (List.mem_append_left _ (List.mem_of_getElem? (i := 18) rfl)))))))))
theorem bw_339 : (Jvm.Cond.methodLink "CommitDeskLaw" (117 : Nat) ({ cls := "CommitDeskLaw", name := "all", desc := "(LCommitDesk;I[J)I" } : Jvm.MethodName)) ∈ BIG := List.mem_append_right _ (List.mem_append_right _ (List.mem_append_right _ (List.mem_append_right _ (List.mem_append_right _ (List.mem_append_right _ (List.mem_append_right _ (List.mem_append_right _ (List.mem_append_left _ (List.mem_of_getElem? (i := 19) rfl)))))))))
theorem bw_340 : (Jvm.Cond.static ({ cls := "CommitDeskLaw", name := "all", desc := "(LCommitDesk;I[J)I" } : Jvm.MethodName)) ∈ BIG := List.mem_append_right _ (List.mem_append_right _ (List.mem_append_right _ (List.mem_append_right _ (List.mem_append_right _ (List.mem_append_right _ (List.mem_append_right _ (List.mem_append_right _ (List.mem_append_left _ (List.mem_of_getElem? (i := 20) rfl)))))))))
theorem bw_341 : (Jvm.Cond.codeWith ({ cls := "CommitDeskLaw", name := "all", desc := "(LCommitDesk;I[J)I" } : Jvm.MethodName) method_15_code (4 : Nat) (Option.some Jvm.ClassFile.FieldType.int) [((0 : Nat), (9 : Nat), (12 : Nat), (13 : Nat))]) ∈ BIG := List.mem_append_right _ (List.mem_append_right _ (List.mem_append_right _ (List.mem_append_right _ (List.mem_append_right _ (List.mem_append_right _ (List.mem_append_right _ (List.mem_append_right _ (List.mem_append_left _ (List.mem_of_getElem? (i := 21) rfl)))))))))
theorem bw_342 : (Jvm.Cond.methodLink "CommitDeskLaw" (61 : Nat) ({ cls := "CommitDesk", name := "all", desc := "(I)I" } : Jvm.MethodName)) ∈ BIG := List.mem_append_right _ (List.mem_append_right _ (List.mem_append_right _ (List.mem_append_right _ (List.mem_append_right _ (List.mem_append_right _ (List.mem_append_right _ (List.mem_append_right _ (List.mem_append_left _ (List.mem_of_getElem? (i := 22) rfl)))))))))
theorem bw_343 : (Jvm.Cond.instanceMethod ({ cls := "CommitDesk", name := "all", desc := "(I)I" } : Jvm.MethodName)) ∈ BIG := List.mem_append_right _ (List.mem_append_right _ (List.mem_append_right _ (List.mem_append_right _ (List.mem_append_right _ (List.mem_append_right _ (List.mem_append_right _ (List.mem_append_right _ (List.mem_append_left _ (List.mem_of_getElem? (i := 23) rfl)))))))))
theorem bw_344 : (Jvm.Cond.selects "CommitDesk" ({ cls := "CommitDesk", name := "all", desc := "(I)I" } : Jvm.MethodName) ({ cls := "CommitDesk", name := "all", desc := "(I)I" } : Jvm.MethodName)) ∈ BIG := List.mem_append_right _ (List.mem_append_right _ (List.mem_append_right _ (List.mem_append_right _ (List.mem_append_right _ (List.mem_append_right _ (List.mem_append_right _ (List.mem_append_right _ (List.mem_append_left _ (List.mem_of_getElem? (i := 24) rfl)))))))))
theorem bw_345 : (Jvm.Cond.code ({ cls := "CommitDesk", name := "all", desc := "(I)I" } : Jvm.MethodName) prog_1_method_14_code (2 : Nat) (Option.some Jvm.ClassFile.FieldType.int)) ∈ BIG := List.mem_append_right _ (List.mem_append_right _ (List.mem_append_right _ (List.mem_append_right _ (List.mem_append_right _ (List.mem_append_right _ (List.mem_append_right _ (List.mem_append_right _ (List.mem_append_left _ (List.mem_of_getElem? (i := 25) rfl)))))))))
theorem bw_346 : (Jvm.Cond.methodLink "CommitDesk" (122 : Nat) ({ cls := "CommitDesk", name := "openTotal", desc := "()I" } : Jvm.MethodName)) ∈ BIG := List.mem_append_right _ (List.mem_append_right _ (List.mem_append_right _ (List.mem_append_right _ (List.mem_append_right _ (List.mem_append_right _ (List.mem_append_right _ (List.mem_append_right _ (List.mem_append_left _ (List.mem_of_getElem? (i := 26) rfl)))))))))
theorem bw_347 : (Jvm.Cond.instanceMethod ({ cls := "CommitDesk", name := "openTotal", desc := "()I" } : Jvm.MethodName)) ∈ BIG := List.mem_append_right _ (List.mem_append_right _ (List.mem_append_right _ (List.mem_append_right _ (List.mem_append_right _ (List.mem_append_right _ (List.mem_append_right _ (List.mem_append_right _ (List.mem_append_left _ (List.mem_of_getElem? (i := 27) rfl)))))))))
theorem bw_348 : (Jvm.Cond.code ({ cls := "CommitDesk", name := "openTotal", desc := "()I" } : Jvm.MethodName) prog_1_method_22_code (3 : Nat) (Option.some Jvm.ClassFile.FieldType.int)) ∈ BIG := List.mem_append_right _ (List.mem_append_right _ (List.mem_append_right _ (List.mem_append_right _ (List.mem_append_right _ (List.mem_append_right _ (List.mem_append_right _ (List.mem_append_right _ (List.mem_append_left _ (List.mem_of_getElem? (i := 28) rfl)))))))))
theorem bw_349 : (Jvm.Cond.classLink "CommitDeskLaw" (65 : Nat) "CommitDeskModel") ∈ BIG := List.mem_append_right _ (List.mem_append_right _ (List.mem_append_right _ (List.mem_append_right _ (List.mem_append_right _ (List.mem_append_right _ (List.mem_append_right _ (List.mem_append_right _ (List.mem_append_left _ (List.mem_of_getElem? (i := 29) rfl)))))))))
theorem bw_350 : (Jvm.Cond.instantiable "CommitDeskModel" (11 : Nat)) ∈ BIG := List.mem_append_right _ (List.mem_append_right _ (List.mem_append_right _ (List.mem_append_right _ (List.mem_append_right _ (List.mem_append_right _ (List.mem_append_right _ (List.mem_append_right _ (List.mem_append_left _ (List.mem_of_getElem? (i := 30) rfl)))))))))
theorem bw_351 : (Jvm.Cond.methodLink "CommitDeskLaw" (67 : Nat) ({ cls := "CommitDeskModel", name := "<init>", desc := "()V" } : Jvm.MethodName)) ∈ BIG := List.mem_append_right _ (List.mem_append_right _ (List.mem_append_right _ (List.mem_append_right _ (List.mem_append_right _ (List.mem_append_right _ (List.mem_append_right _ (List.mem_append_right _ (List.mem_append_left _ (List.mem_of_getElem? (i := 31) rfl)))))))))
theorem bw_352 : (Jvm.Cond.instanceMethod ({ cls := "CommitDeskModel", name := "<init>", desc := "()V" } : Jvm.MethodName)) ∈ BIG := List.mem_append_right _ (List.mem_append_right _ (List.mem_append_right _ (List.mem_append_right _ (List.mem_append_right _ (List.mem_append_right _ (List.mem_append_right _ (List.mem_append_right _ (List.mem_append_left _ (List.mem_of_getElem? (i := 32) rfl)))))))))
theorem bw_353 : (Jvm.Cond.code ({ cls := "CommitDeskModel", name := "<init>", desc := "()V" } : Jvm.MethodName) prog_4_method_1_code (1 : Nat) (Option.none : Option Jvm.ClassFile.FieldType)) ∈ BIG := List.mem_append_right _ (List.mem_append_right _ (List.mem_append_right _ (List.mem_append_right _ (List.mem_append_right _ (List.mem_append_right _ (List.mem_append_right _ (List.mem_append_right _ (List.mem_append_left _ (List.mem_of_getElem? (i := 33) rfl)))))))))
theorem bw_354 : (Jvm.Cond.methodLink "CommitDeskModel" (1 : Nat) ({ cls := "java/lang/Object", name := "<init>", desc := "()V" } : Jvm.MethodName)) ∈ BIG := List.mem_append_right _ (List.mem_append_right _ (List.mem_append_right _ (List.mem_append_right _ (List.mem_append_right _ (List.mem_append_right _ (List.mem_append_right _ (List.mem_append_right _ (List.mem_append_left _ (List.mem_of_getElem? (i := 34) rfl)))))))))
theorem bw_355 : (Jvm.Cond.fieldLink "CommitDeskModel" (36 : Nat) "CommitDeskModel" "err" "I") ∈ BIG := List.mem_append_right _ (List.mem_append_right _ (List.mem_append_right _ (List.mem_append_right _ (List.mem_append_right _ (List.mem_append_right _ (List.mem_append_right _ (List.mem_append_right _ (List.mem_append_left _ (List.mem_of_getElem? (i := 35) rfl)))))))))
theorem bw_356 : (Jvm.Cond.fieldLink "CommitDeskModel" (9 : Nat) "CommitDeskModel" "cells" "[J") ∈ BIG := List.mem_append_right _ (List.mem_append_right _ (List.mem_append_right _ (List.mem_append_right _ (List.mem_append_right _ (List.mem_append_right _ (List.mem_append_right _ (List.mem_append_right _ (List.mem_append_left _ (List.mem_of_getElem? (i := 36) rfl)))))))))
theorem bw_357 : (Jvm.Cond.fieldLink "CommitDeskModel" (13 : Nat) "CommitDeskModel" "wrote" "[J") ∈ BIG := List.mem_append_right _ (List.mem_append_right _ (List.mem_append_right _ (List.mem_append_right _ (List.mem_append_right _ (List.mem_append_right _ (List.mem_append_right _ (List.mem_append_right _ (List.mem_append_left _ (List.mem_of_getElem? (i := 37) rfl)))))))))
theorem bw_358 : (Jvm.Cond.fieldLink "CommitDeskModel" (16 : Nat) "CommitDeskModel" "changes" "[I") ∈ BIG := List.mem_append_right _ (List.mem_append_right _ (List.mem_append_right _ (List.mem_append_right _ (List.mem_append_right _ (List.mem_append_right _ (List.mem_append_right _ (List.mem_append_right _ (List.mem_append_left _ (List.mem_of_getElem? (i := 38) rfl)))))))))
theorem bw_359 : (Jvm.Cond.fieldLink "CommitDeskModel" (20 : Nat) "CommitDeskModel" "parts" "[I") ∈ BIG := List.mem_append_right _ (List.mem_append_right _ (List.mem_append_right _ (List.mem_append_right _ (List.mem_append_right _ (List.mem_append_right _ (List.mem_append_right _ (List.mem_append_right _ (List.mem_append_left _ (List.mem_of_getElem? (i := 39) rfl)))))))))
theorem bw_360 : (Jvm.Cond.fieldLink "CommitDeskModel" (23 : Nat) "CommitDeskModel" "seen" "[I") ∈ BIG := List.mem_append_right _ (List.mem_append_right _ (List.mem_append_right _ (List.mem_append_right _ (List.mem_append_right _ (List.mem_append_right _ (List.mem_append_right _ (List.mem_append_right _ (List.mem_append_right _ (List.mem_append_left _ (List.mem_of_getElem? (i := 0) rfl))))))))))
theorem bw_361 : (Jvm.Cond.fieldLink "CommitDeskModel" (26 : Nat) "CommitDeskModel" "has" "[Z") ∈ BIG := List.mem_append_right _ (List.mem_append_right _ (List.mem_append_right _ (List.mem_append_right _ (List.mem_append_right _ (List.mem_append_right _ (List.mem_append_right _ (List.mem_append_right _ (List.mem_append_right _ (List.mem_append_left _ (List.mem_of_getElem? (i := 1) rfl))))))))))
theorem bw_362 : (Jvm.Cond.fieldLink "CommitDeskModel" (30 : Nat) "CommitDeskModel" "read" "[Z") ∈ BIG := List.mem_append_right _ (List.mem_append_right _ (List.mem_append_right _ (List.mem_append_right _ (List.mem_append_right _ (List.mem_append_right _ (List.mem_append_right _ (List.mem_append_right _ (List.mem_append_right _ (List.mem_append_left _ (List.mem_of_getElem? (i := 2) rfl))))))))))
theorem bw_363 : (Jvm.Cond.fieldLink "CommitDeskModel" (33 : Nat) "CommitDeskModel" "open" "[Z") ∈ BIG := List.mem_append_right _ (List.mem_append_right _ (List.mem_append_right _ (List.mem_append_right _ (List.mem_append_right _ (List.mem_append_right _ (List.mem_append_right _ (List.mem_append_right _ (List.mem_append_right _ (List.mem_append_left _ (List.mem_of_getElem? (i := 3) rfl))))))))))
theorem bw_364 : (Jvm.Cond.fieldLink "CommitDeskModel" (77 : Nat) "CommitDeskModel" "done" "I") ∈ BIG := List.mem_append_right _ (List.mem_append_right _ (List.mem_append_right _ (List.mem_append_right _ (List.mem_append_right _ (List.mem_append_right _ (List.mem_append_right _ (List.mem_append_right _ (List.mem_append_right _ (List.mem_append_left _ (List.mem_of_getElem? (i := 4) rfl))))))))))
theorem bw_365 : (Jvm.Cond.fieldLink "CommitDeskModel" (66 : Nat) "CommitDeskModel" "stale" "I") ∈ BIG := List.mem_append_right _ (List.mem_append_right _ (List.mem_append_right _ (List.mem_append_right _ (List.mem_append_right _ (List.mem_append_right _ (List.mem_append_right _ (List.mem_append_right _ (List.mem_append_right _ (List.mem_append_left _ (List.mem_of_getElem? (i := 5) rfl))))))))))
theorem bw_366 : (Jvm.Cond.lays "CommitDeskModel" "CommitDeskModel" "err" "I") ∈ BIG := List.mem_append_right _ (List.mem_append_right _ (List.mem_append_right _ (List.mem_append_right _ (List.mem_append_right _ (List.mem_append_right _ (List.mem_append_right _ (List.mem_append_right _ (List.mem_append_right _ (List.mem_append_left _ (List.mem_of_getElem? (i := 6) rfl))))))))))
theorem bw_367 : (Jvm.Cond.laysFinal "CommitDeskModel" "CommitDeskModel" "cells" "[J") ∈ BIG := List.mem_append_right _ (List.mem_append_right _ (List.mem_append_right _ (List.mem_append_right _ (List.mem_append_right _ (List.mem_append_right _ (List.mem_append_right _ (List.mem_append_right _ (List.mem_append_right _ (List.mem_append_left _ (List.mem_of_getElem? (i := 7) rfl))))))))))
theorem bw_368 : (Jvm.Cond.laysFinal "CommitDeskModel" "CommitDeskModel" "wrote" "[J") ∈ BIG := List.mem_append_right _ (List.mem_append_right _ (List.mem_append_right _ (List.mem_append_right _ (List.mem_append_right _ (List.mem_append_right _ (List.mem_append_right _ (List.mem_append_right _ (List.mem_append_right _ (List.mem_append_left _ (List.mem_of_getElem? (i := 8) rfl))))))))))
theorem bw_369 : (Jvm.Cond.laysFinal "CommitDeskModel" "CommitDeskModel" "changes" "[I") ∈ BIG := List.mem_append_right _ (List.mem_append_right _ (List.mem_append_right _ (List.mem_append_right _ (List.mem_append_right _ (List.mem_append_right _ (List.mem_append_right _ (List.mem_append_right _ (List.mem_append_right _ (List.mem_append_left _ (List.mem_of_getElem? (i := 9) rfl))))))))))
theorem bw_370 : (Jvm.Cond.laysFinal "CommitDeskModel" "CommitDeskModel" "parts" "[I") ∈ BIG := List.mem_append_right _ (List.mem_append_right _ (List.mem_append_right _ (List.mem_append_right _ (List.mem_append_right _ (List.mem_append_right _ (List.mem_append_right _ (List.mem_append_right _ (List.mem_append_right _ (List.mem_append_left _ (List.mem_of_getElem? (i := 10) rfl))))))))))
theorem bw_371 : (Jvm.Cond.laysFinal "CommitDeskModel" "CommitDeskModel" "seen" "[I") ∈ BIG := List.mem_append_right _ (List.mem_append_right _ (List.mem_append_right _ (List.mem_append_right _ (List.mem_append_right _ (List.mem_append_right _ (List.mem_append_right _ (List.mem_append_right _ (List.mem_append_right _ (List.mem_append_left _ (List.mem_of_getElem? (i := 11) rfl))))))))))
theorem bw_372 : (Jvm.Cond.laysFinal "CommitDeskModel" "CommitDeskModel" "has" "[Z") ∈ BIG := List.mem_append_right _ (List.mem_append_right _ (List.mem_append_right _ (List.mem_append_right _ (List.mem_append_right _ (List.mem_append_right _ (List.mem_append_right _ (List.mem_append_right _ (List.mem_append_right _ (List.mem_append_left _ (List.mem_of_getElem? (i := 12) rfl))))))))))
theorem bw_373 : (Jvm.Cond.laysFinal "CommitDeskModel" "CommitDeskModel" "read" "[Z") ∈ BIG := List.mem_append_right _ (List.mem_append_right _ (List.mem_append_right _ (List.mem_append_right _ (List.mem_append_right _ (List.mem_append_right _ (List.mem_append_right _ (List.mem_append_right _ (List.mem_append_right _ (List.mem_append_left _ (List.mem_of_getElem? (i := 13) rfl))))))))))
theorem bw_374 : (Jvm.Cond.laysFinal "CommitDeskModel" "CommitDeskModel" "open" "[Z") ∈ BIG := List.mem_append_right _ (List.mem_append_right _ (List.mem_append_right _ (List.mem_append_right _ (List.mem_append_right _ (List.mem_append_right _ (List.mem_append_right _ (List.mem_append_right _ (List.mem_append_right _ (List.mem_append_left _ (List.mem_of_getElem? (i := 14) rfl))))))))))
theorem bw_375 : (Jvm.Cond.lays "CommitDeskModel" "CommitDeskModel" "done" "I") ∈ BIG := List.mem_append_right _ (List.mem_append_right _ (List.mem_append_right _ (List.mem_append_right _ (List.mem_append_right _ (List.mem_append_right _ (List.mem_append_right _ (List.mem_append_right _ (List.mem_append_right _ (List.mem_append_left _ (List.mem_of_getElem? (i := 15) rfl))))))))))
theorem bw_376 : (Jvm.Cond.lays "CommitDeskModel" "CommitDeskModel" "stale" "I") ∈ BIG := List.mem_append_right _ (List.mem_append_right _ (List.mem_append_right _ (List.mem_append_right _ (List.mem_append_right _ (List.mem_append_right _ (List.mem_append_right _ (List.mem_append_right _ (List.mem_append_right _ (List.mem_append_left _ (List.mem_of_getElem? (i := 16) rfl))))))))))
theorem bw_377 : (Jvm.Cond.superclass "CommitDeskModel" "java/lang/Object") ∈ BIG := List.mem_append_right _ (List.mem_append_right _ (List.mem_append_right _ (List.mem_append_right _ (List.mem_append_right _ (List.mem_append_right _ (List.mem_append_right _ (List.mem_append_right _ (List.mem_append_right _ (List.mem_append_left _ (List.mem_of_getElem? (i := 17) rfl))))))))))
theorem bw_378 : (Jvm.Cond.arrayClass Jvm.ClassFile.FieldType.boolean) ∈ BIG := List.mem_append_right _ (List.mem_append_right _ (List.mem_append_right _ (List.mem_append_right _ (List.mem_append_right _ (List.mem_append_right _ (List.mem_append_right _ (List.mem_append_right _ (List.mem_append_right _ (List.mem_append_left _ (List.mem_of_getElem? (i := 18) rfl))))))))))
theorem bw_379 : (Jvm.Cond.methodLink "CommitDeskLaw" (74 : Nat) ({ cls := "CommitDeskModel", name := "thrown", desc := "()I" } : Jvm.MethodName)) ∈ BIG := List.mem_append_right _ (List.mem_append_right _ (List.mem_append_right _ (List.mem_append_right _ (List.mem_append_right _ (List.mem_append_right _ (List.mem_append_right _ (List.mem_append_right _ (List.mem_append_right _ (List.mem_append_left _ (List.mem_of_getElem? (i := 19) rfl))))))))))
theorem bw_380 : (Jvm.Cond.instanceMethod ({ cls := "CommitDeskModel", name := "thrown", desc := "()I" } : Jvm.MethodName)) ∈ BIG := List.mem_append_right _ (List.mem_append_right _ (List.mem_append_right _ (List.mem_append_right _ (List.mem_append_right _ (List.mem_append_right _ (List.mem_append_right _ (List.mem_append_right _ (List.mem_append_right _ (List.mem_append_left _ (List.mem_of_getElem? (i := 20) rfl))))))))))
theorem bw_381 : (Jvm.Cond.selects "CommitDeskModel" ({ cls := "CommitDeskModel", name := "thrown", desc := "()I" } : Jvm.MethodName) ({ cls := "CommitDeskModel", name := "thrown", desc := "()I" } : Jvm.MethodName)) ∈ BIG := List.mem_append_right _ (List.mem_append_right _ (List.mem_append_right _ (List.mem_append_right _ (List.mem_append_right _ (List.mem_append_right _ (List.mem_append_right _ (List.mem_append_right _ (List.mem_append_right _ (List.mem_append_left _ (List.mem_of_getElem? (i := 21) rfl))))))))))
theorem bw_382 : (Jvm.Cond.code ({ cls := "CommitDeskModel", name := "thrown", desc := "()I" } : Jvm.MethodName) prog_4_method_2_code (1 : Nat) (Option.some Jvm.ClassFile.FieldType.int)) ∈ BIG := List.mem_append_right _ (List.mem_append_right _ (List.mem_append_right _ (List.mem_append_right _ (List.mem_append_right _ (List.mem_append_right _ (List.mem_append_right _ (List.mem_append_right _ (List.mem_append_right _ (List.mem_append_left _ (List.mem_of_getElem? (i := 22) rfl))))))))))
theorem bw_383 : (Jvm.Cond.methodLink "CommitDeskLaw" (73 : Nat) ({ cls := "CommitDeskModel", name := "begin", desc := "(I)V" } : Jvm.MethodName)) ∈ BIG := List.mem_append_right _ (List.mem_append_right _ (List.mem_append_right _ (List.mem_append_right _ (List.mem_append_right _ (List.mem_append_right _ (List.mem_append_right _ (List.mem_append_right _ (List.mem_append_right _ (List.mem_append_left _ (List.mem_of_getElem? (i := 23) rfl))))))))))
theorem bw_384 : (Jvm.Cond.instanceMethod ({ cls := "CommitDeskModel", name := "begin", desc := "(I)V" } : Jvm.MethodName)) ∈ BIG := List.mem_append_right _ (List.mem_append_right _ (List.mem_append_right _ (List.mem_append_right _ (List.mem_append_right _ (List.mem_append_right _ (List.mem_append_right _ (List.mem_append_right _ (List.mem_append_right _ (List.mem_append_left _ (List.mem_of_getElem? (i := 24) rfl))))))))))
theorem bw_385 : (Jvm.Cond.selects "CommitDeskModel" ({ cls := "CommitDeskModel", name := "begin", desc := "(I)V" } : Jvm.MethodName) ({ cls := "CommitDeskModel", name := "begin", desc := "(I)V" } : Jvm.MethodName)) ∈ BIG := List.mem_append_right _ (List.mem_append_right _ (List.mem_append_right _ (List.mem_append_right _ (List.mem_append_right _ (List.mem_append_right _ (List.mem_append_right _ (List.mem_append_right _ (List.mem_append_right _ (List.mem_append_left _ (List.mem_of_getElem? (i := 25) rfl))))))))))
theorem bw_386 : (Jvm.Cond.code ({ cls := "CommitDeskModel", name := "begin", desc := "(I)V" } : Jvm.MethodName) prog_4_method_10_code (3 : Nat) (Option.none : Option Jvm.ClassFile.FieldType)) ∈ BIG := List.mem_append_right _ (List.mem_append_right _ (List.mem_append_right _ (List.mem_append_right _ (List.mem_append_right _ (List.mem_append_right _ (List.mem_append_right _ (List.mem_append_right _ (List.mem_append_right _ (List.mem_append_left _ (List.mem_of_getElem? (i := 26) rfl))))))))))
theorem bw_387 : (Jvm.Cond.methodLink "CommitDeskModel" (48 : Nat) ({ cls := "CommitDeskModel", name := "isOne", desc := "(I)Z" } : Jvm.MethodName)) ∈ BIG := List.mem_append_right _ (List.mem_append_right _ (List.mem_append_right _ (List.mem_append_right _ (List.mem_append_right _ (List.mem_append_right _ (List.mem_append_right _ (List.mem_append_right _ (List.mem_append_right _ (List.mem_append_left _ (List.mem_of_getElem? (i := 27) rfl))))))))))
theorem bw_388 : (Jvm.Cond.static ({ cls := "CommitDeskModel", name := "isOne", desc := "(I)Z" } : Jvm.MethodName)) ∈ BIG := List.mem_append_right _ (List.mem_append_right _ (List.mem_append_right _ (List.mem_append_right _ (List.mem_append_right _ (List.mem_append_right _ (List.mem_append_right _ (List.mem_append_right _ (List.mem_append_right _ (List.mem_append_left _ (List.mem_of_getElem? (i := 28) rfl))))))))))
theorem bw_389 : (Jvm.Cond.code ({ cls := "CommitDeskModel", name := "isOne", desc := "(I)Z" } : Jvm.MethodName) prog_4_method_5_code (1 : Nat) (Option.some Jvm.ClassFile.FieldType.boolean)) ∈ BIG := List.mem_append_right _ (List.mem_append_right _ (List.mem_append_right _ (List.mem_append_right _ (List.mem_append_right _ (List.mem_append_right _ (List.mem_append_right _ (List.mem_append_right _ (List.mem_append_right _ (List.mem_append_left _ (List.mem_of_getElem? (i := 29) rfl))))))))))
theorem bw_390 : (Jvm.Cond.constantLong "CommitDeskModel" (40 : Nat) (7 : Int64)) ∈ BIG := List.mem_append_right _ (List.mem_append_right _ (List.mem_append_right _ (List.mem_append_right _ (List.mem_append_right _ (List.mem_append_right _ (List.mem_append_right _ (List.mem_append_right _ (List.mem_append_right _ (List.mem_append_left _ (List.mem_of_getElem? (i := 30) rfl))))))))))
theorem bw_391 : (Jvm.Cond.methodLink "CommitDeskModel" (42 : Nat) ({ cls := "CommitDeskModel", name := "in", desc := "(JJJ)Z" } : Jvm.MethodName)) ∈ BIG := List.mem_append_right _ (List.mem_append_right _ (List.mem_append_right _ (List.mem_append_right _ (List.mem_append_right _ (List.mem_append_right _ (List.mem_append_right _ (List.mem_append_right _ (List.mem_append_right _ (List.mem_append_left _ (List.mem_of_getElem? (i := 31) rfl))))))))))
theorem bw_392 : (Jvm.Cond.static ({ cls := "CommitDeskModel", name := "in", desc := "(JJJ)Z" } : Jvm.MethodName)) ∈ BIG := List.mem_append_right _ (List.mem_append_right _ (List.mem_append_right _ (List.mem_append_right _ (List.mem_append_right _ (List.mem_append_right _ (List.mem_append_right _ (List.mem_append_right _ (List.mem_append_right _ (List.mem_append_left _ (List.mem_of_getElem? (i := 32) rfl))))))))))
theorem bw_393 : (Jvm.Cond.code ({ cls := "CommitDeskModel", name := "in", desc := "(JJJ)Z" } : Jvm.MethodName) prog_4_method_3_code (6 : Nat) (Option.some Jvm.ClassFile.FieldType.boolean)) ∈ BIG := List.mem_append_right _ (List.mem_append_right _ (List.mem_append_right _ (List.mem_append_right _ (List.mem_append_right _ (List.mem_append_right _ (List.mem_append_right _ (List.mem_append_right _ (List.mem_append_right _ (List.mem_append_left _ (List.mem_of_getElem? (i := 33) rfl))))))))))
theorem bw_394 : (Jvm.Cond.methodLink "CommitDeskModel" (52 : Nat) ({ cls := "CommitDeskModel", name := "fails", desc := "(ZI)Z" } : Jvm.MethodName)) ∈ BIG := List.mem_append_right _ (List.mem_append_right _ (List.mem_append_right _ (List.mem_append_right _ (List.mem_append_right _ (List.mem_append_right _ (List.mem_append_right _ (List.mem_append_right _ (List.mem_append_right _ (List.mem_append_left _ (List.mem_of_getElem? (i := 34) rfl))))))))))
theorem bw_395 : (Jvm.Cond.instanceMethod ({ cls := "CommitDeskModel", name := "fails", desc := "(ZI)Z" } : Jvm.MethodName)) ∈ BIG := List.mem_append_right _ (List.mem_append_right _ (List.mem_append_right _ (List.mem_append_right _ (List.mem_append_right _ (List.mem_append_right _ (List.mem_append_right _ (List.mem_append_right _ (List.mem_append_right _ (List.mem_append_left _ (List.mem_of_getElem? (i := 35) rfl))))))))))
theorem bw_396 : (Jvm.Cond.code ({ cls := "CommitDeskModel", name := "fails", desc := "(ZI)Z" } : Jvm.MethodName) prog_4_method_4_code (3 : Nat) (Option.some Jvm.ClassFile.FieldType.boolean)) ∈ BIG := List.mem_append_right _ (List.mem_append_right _ (List.mem_append_right _ (List.mem_append_right _ (List.mem_append_right _ (List.mem_append_right _ (List.mem_append_right _ (List.mem_append_right _ (List.mem_append_right _ (List.mem_append_left _ (List.mem_of_getElem? (i := 36) rfl))))))))))
theorem bw_397 : (Jvm.Cond.methodLink "CommitDeskModel" (56 : Nat) ({ cls := "CommitDeskModel", name := "last", desc := "(II)I" } : Jvm.MethodName)) ∈ BIG := List.mem_append_right _ (List.mem_append_right _ (List.mem_append_right _ (List.mem_append_right _ (List.mem_append_right _ (List.mem_append_right _ (List.mem_append_right _ (List.mem_append_right _ (List.mem_append_right _ (List.mem_append_left _ (List.mem_of_getElem? (i := 37) rfl))))))))))
theorem bw_398 : (Jvm.Cond.instanceMethod ({ cls := "CommitDeskModel", name := "last", desc := "(II)I" } : Jvm.MethodName)) ∈ BIG := List.mem_append_right _ (List.mem_append_right _ (List.mem_append_right _ (List.mem_append_right _ (List.mem_append_right _ (List.mem_append_right _ (List.mem_append_right _ (List.mem_append_right _ (List.mem_append_right _ (List.mem_append_left _ (List.mem_of_getElem? (i := 38) rfl))))))))))
theorem bw_399 : (Jvm.Cond.code ({ cls := "CommitDeskModel", name := "last", desc := "(II)I" } : Jvm.MethodName) prog_4_method_7_code (3 : Nat) (Option.some Jvm.ClassFile.FieldType.int)) ∈ BIG := List.mem_append_right _ (List.mem_append_right _ (List.mem_append_right _ (List.mem_append_right _ (List.mem_append_right _ (List.mem_append_right _ (List.mem_append_right _ (List.mem_append_right _ (List.mem_append_right _ (List.mem_append_left _ (List.mem_of_getElem? (i := 39) rfl))))))))))
theorem bw_400 : (Jvm.Cond.methodLink "CommitDeskLaw" (81 : Nat) ({ cls := "CommitDeskModel", name := "read", desc := "(II)J" } : Jvm.MethodName)) ∈ BIG := List.mem_append_right _ (List.mem_append_right _ (List.mem_append_right _ (List.mem_append_right _ (List.mem_append_right _ (List.mem_append_right _ (List.mem_append_right _ (List.mem_append_right _ (List.mem_append_right _ (List.mem_append_right _ (List.mem_append_left _ (List.mem_of_getElem? (i := 0) rfl)))))))))))
theorem bw_401 : (Jvm.Cond.instanceMethod ({ cls := "CommitDeskModel", name := "read", desc := "(II)J" } : Jvm.MethodName)) ∈ BIG := List.mem_append_right _ (List.mem_append_right _ (List.mem_append_right _ (List.mem_append_right _ (List.mem_append_right _ (List.mem_append_right _ (List.mem_append_right _ (List.mem_append_right _ (List.mem_append_right _ (List.mem_append_right _ (List.mem_append_left _ (List.mem_of_getElem? (i := 1) rfl)))))))))))
theorem bw_402 : (Jvm.Cond.selects "CommitDeskModel" ({ cls := "CommitDeskModel", name := "read", desc := "(II)J" } : Jvm.MethodName) ({ cls := "CommitDeskModel", name := "read", desc := "(II)J" } : Jvm.MethodName)) ∈ BIG := List.mem_append_right _ (List.mem_append_right _ (List.mem_append_right _ (List.mem_append_right _ (List.mem_append_right _ (List.mem_append_right _ (List.mem_append_right _ (List.mem_append_right _ (List.mem_append_right _ (List.mem_append_right _ (List.mem_append_left _ (List.mem_of_getElem? (i := 2) rfl)))))))))))
theorem bw_403 : (Jvm.Cond.code ({ cls := "CommitDeskModel", name := "read", desc := "(II)J" } : Jvm.MethodName) prog_4_method_11_code (3 : Nat) (Option.some Jvm.ClassFile.FieldType.long)) ∈ BIG := List.mem_append_right _ (List.mem_append_right _ (List.mem_append_right _ (List.mem_append_right _ (List.mem_append_right _ (List.mem_append_right _ (List.mem_append_right _ (List.mem_append_right _ (List.mem_append_right _ (List.mem_append_right _ (List.mem_append_left _ (List.mem_of_getElem? (i := 3) rfl)))))))))))
theorem bw_404 : (Jvm.Cond.methodLink "CommitDeskModel" (60 : Nat) ({ cls := "CommitDeskModel", name := "isCell", desc := "(I)Z" } : Jvm.MethodName)) ∈ BIG := List.mem_append_right _ (List.mem_append_right _ (List.mem_append_right _ (List.mem_append_right _ (List.mem_append_right _ (List.mem_append_right _ (List.mem_append_right _ (List.mem_append_right _ (List.mem_append_right _ (List.mem_append_right _ (List.mem_append_left _ (List.mem_of_getElem? (i := 4) rfl)))))))))))
theorem bw_405 : (Jvm.Cond.static ({ cls := "CommitDeskModel", name := "isCell", desc := "(I)Z" } : Jvm.MethodName)) ∈ BIG := List.mem_append_right _ (List.mem_append_right _ (List.mem_append_right _ (List.mem_append_right _ (List.mem_append_right _ (List.mem_append_right _ (List.mem_append_right _ (List.mem_append_right _ (List.mem_append_right _ (List.mem_append_right _ (List.mem_append_left _ (List.mem_of_getElem? (i := 5) rfl)))))))))))
theorem bw_406 : (Jvm.Cond.code ({ cls := "CommitDeskModel", name := "isCell", desc := "(I)Z" } : Jvm.MethodName) prog_4_method_6_code (1 : Nat) (Option.some Jvm.ClassFile.FieldType.boolean)) ∈ BIG := List.mem_append_right _ (List.mem_append_right _ (List.mem_append_right _ (List.mem_append_right _ (List.mem_append_right _ (List.mem_append_right _ (List.mem_append_right _ (List.mem_append_right _ (List.mem_append_right _ (List.mem_append_right _ (List.mem_append_left _ (List.mem_of_getElem? (i := 6) rfl)))))))))))
theorem bw_407 : (Jvm.Cond.constantLong "CommitDeskModel" (46 : Nat) (31 : Int64)) ∈ BIG := List.mem_append_right _ (List.mem_append_right _ (List.mem_append_right _ (List.mem_append_right _ (List.mem_append_right _ (List.mem_append_right _ (List.mem_append_right _ (List.mem_append_right _ (List.mem_append_right _ (List.mem_append_right _ (List.mem_append_left _ (List.mem_of_getElem? (i := 7) rfl)))))))))))
theorem bw_408 : (Jvm.Cond.methodLink "CommitDeskModel" (63 : Nat) ({ cls := "CommitDeskModel", name := "isStale", desc := "(I)Z" } : Jvm.MethodName)) ∈ BIG := List.mem_append_right _ (List.mem_append_right _ (List.mem_append_right _ (List.mem_append_right _ (List.mem_append_right _ (List.mem_append_right _ (List.mem_append_right _ (List.mem_append_right _ (List.mem_append_right _ (List.mem_append_right _ (List.mem_append_left _ (List.mem_of_getElem? (i := 8) rfl)))))))))))
theorem bw_409 : (Jvm.Cond.instanceMethod ({ cls := "CommitDeskModel", name := "isStale", desc := "(I)Z" } : Jvm.MethodName)) ∈ BIG := List.mem_append_right _ (List.mem_append_right _ (List.mem_append_right _ (List.mem_append_right _ (List.mem_append_right _ (List.mem_append_right _ (List.mem_append_right _ (List.mem_append_right _ (List.mem_append_right _ (List.mem_append_right _ (List.mem_append_left _ (List.mem_of_getElem? (i := 9) rfl)))))))))))
theorem bw_410 : (Jvm.Cond.code ({ cls := "CommitDeskModel", name := "isStale", desc := "(I)Z" } : Jvm.MethodName) prog_4_method_8_code (3 : Nat) (Option.some Jvm.ClassFile.FieldType.boolean)) ∈ BIG := List.mem_append_right _ (List.mem_append_right _ (List.mem_append_right _ (List.mem_append_right _ (List.mem_append_right _ (List.mem_append_right _ (List.mem_append_right _ (List.mem_append_right _ (List.mem_append_right _ (List.mem_append_right _ (List.mem_append_left _ (List.mem_of_getElem? (i := 10) rfl)))))))))))
theorem bw_411 : (Jvm.Cond.methodLink "CommitDeskLaw" (87 : Nat) ({ cls := "CommitDeskModel", name := "write", desc := "(IIJ)V" } : Jvm.MethodName)) ∈ BIG := List.mem_append_right _ (List.mem_append_right _ (List.mem_append_right _ (List.mem_append_right _ (List.mem_append_right _ (List.mem_append_right _ (List.mem_append_right _ (List.mem_append_right _ (List.mem_append_right _ (List.mem_append_right _ (List.mem_append_left _ (List.mem_of_getElem? (i := 11) rfl)))))))))))
theorem bw_412 : (Jvm.Cond.instanceMethod ({ cls := "CommitDeskModel", name := "write", desc := "(IIJ)V" } : Jvm.MethodName)) ∈ BIG := List.mem_append_right _ (List.mem_append_right _ (List.mem_append_right _ (List.mem_append_right _ (List.mem_append_right _ (List.mem_append_right _ (List.mem_append_right _ (List.mem_append_right _ (List.mem_append_right _ (List.mem_append_right _ (List.mem_append_left _ (List.mem_of_getElem? (i := 12) rfl)))))))))))
theorem bw_413 : (Jvm.Cond.selects "CommitDeskModel" ({ cls := "CommitDeskModel", name := "write", desc := "(IIJ)V" } : Jvm.MethodName) ({ cls := "CommitDeskModel", name := "write", desc := "(IIJ)V" } : Jvm.MethodName)) ∈ BIG := List.mem_append_right _ (List.mem_append_right _ (List.mem_append_right _ (List.mem_append_right _ (List.mem_append_right _ (List.mem_append_right _ (List.mem_append_right _ (List.mem_append_right _ (List.mem_append_right _ (List.mem_append_right _ (List.mem_append_left _ (List.mem_of_getElem? (i := 13) rfl)))))))))))
theorem bw_414 : (Jvm.Cond.code ({ cls := "CommitDeskModel", name := "write", desc := "(IIJ)V" } : Jvm.MethodName) prog_4_method_12_code (5 : Nat) (Option.none : Option Jvm.ClassFile.FieldType)) ∈ BIG := List.mem_append_right _ (List.mem_append_right _ (List.mem_append_right _ (List.mem_append_right _ (List.mem_append_right _ (List.mem_append_right _ (List.mem_append_right _ (List.mem_append_right _ (List.mem_append_right _ (List.mem_append_right _ (List.mem_append_left _ (List.mem_of_getElem? (i := 14) rfl)))))))))))
theorem bw_415 : (Jvm.Cond.methodLink "CommitDeskLaw" (91 : Nat) ({ cls := "CommitDeskModel", name := "save", desc := "(I)I" } : Jvm.MethodName)) ∈ BIG := List.mem_append_right _ (List.mem_append_right _ (List.mem_append_right _ (List.mem_append_right _ (List.mem_append_right _ (List.mem_append_right _ (List.mem_append_right _ (List.mem_append_right _ (List.mem_append_right _ (List.mem_append_right _ (List.mem_append_left _ (List.mem_of_getElem? (i := 15) rfl)))))))))))
theorem bw_416 : (Jvm.Cond.instanceMethod ({ cls := "CommitDeskModel", name := "save", desc := "(I)I" } : Jvm.MethodName)) ∈ BIG := List.mem_append_right _ (List.mem_append_right _ (List.mem_append_right _ (List.mem_append_right _ (List.mem_append_right _ (List.mem_append_right _ (List.mem_append_right _ (List.mem_append_right _ (List.mem_append_right _ (List.mem_append_right _ (List.mem_append_left _ (List.mem_of_getElem? (i := 16) rfl)))))))))))
theorem bw_417 : (Jvm.Cond.selects "CommitDeskModel" ({ cls := "CommitDeskModel", name := "save", desc := "(I)I" } : Jvm.MethodName) ({ cls := "CommitDeskModel", name := "save", desc := "(I)I" } : Jvm.MethodName)) ∈ BIG := List.mem_append_right _ (List.mem_append_right _ (List.mem_append_right _ (List.mem_append_right _ (List.mem_append_right _ (List.mem_append_right _ (List.mem_append_right _ (List.mem_append_right _ (List.mem_append_right _ (List.mem_append_right _ (List.mem_append_left _ (List.mem_of_getElem? (i := 17) rfl)))))))))))
theorem bw_418 : (Jvm.Cond.code ({ cls := "CommitDeskModel", name := "save", desc := "(I)I" } : Jvm.MethodName) prog_4_method_14_code (2 : Nat) (Option.some Jvm.ClassFile.FieldType.int)) ∈ BIG := List.mem_append_right _ (List.mem_append_right _ (List.mem_append_right _ (List.mem_append_right _ (List.mem_append_right _ (List.mem_append_right _ (List.mem_append_right _ (List.mem_append_right _ (List.mem_append_right _ (List.mem_append_right _ (List.mem_append_left _ (List.mem_of_getElem? (i := 18) rfl)))))))))))
theorem bw_419 : (Jvm.Cond.methodLink "CommitDeskModel" (69 : Nat) ({ cls := "CommitDeskModel", name := "copy", desc := "(II)V" } : Jvm.MethodName)) ∈ BIG := List.mem_append_right _ (List.mem_append_right _ (List.mem_append_right _ (List.mem_append_right _ (List.mem_append_right _ (List.mem_append_right _ (List.mem_append_right _ (List.mem_append_right _ (List.mem_append_right _ (List.mem_append_right _ (List.mem_append_left _ (List.mem_of_getElem? (i := 19) rfl)))))))))))
theorem bw_420 : (Jvm.Cond.instanceMethod ({ cls := "CommitDeskModel", name := "copy", desc := "(II)V" } : Jvm.MethodName)) ∈ BIG := List.mem_append_right _ (List.mem_append_right _ (List.mem_append_right _ (List.mem_append_right _ (List.mem_append_right _ (List.mem_append_right _ (List.mem_append_right _ (List.mem_append_right _ (List.mem_append_right _ (List.mem_append_right _ (List.mem_append_left _ (List.mem_of_getElem? (i := 20) rfl)))))))))))
theorem bw_421 : (Jvm.Cond.code ({ cls := "CommitDeskModel", name := "copy", desc := "(II)V" } : Jvm.MethodName) prog_4_method_13_code (4 : Nat) (Option.none : Option Jvm.ClassFile.FieldType)) ∈ BIG := List.mem_append_right _ (List.mem_append_right _ (List.mem_append_right _ (List.mem_append_right _ (List.mem_append_right _ (List.mem_append_right _ (List.mem_append_right _ (List.mem_append_right _ (List.mem_append_right _ (List.mem_append_right _ (List.mem_append_left _ (List.mem_of_getElem? (i := 21) rfl)))))))))))
theorem bw_422 : (Jvm.Cond.methodLink "CommitDeskLaw" (94 : Nat) ({ cls := "CommitDeskModel", name := "back", desc := "(I)V" } : Jvm.MethodName)) ∈ BIG := List.mem_append_right _ (List.mem_append_right _ (List.mem_append_right _ (List.mem_append_right _ (List.mem_append_right _ (List.mem_append_right _ (List.mem_append_right _ (List.mem_append_right _ (List.mem_append_right _ (List.mem_append_right _ (List.mem_append_left _ (List.mem_of_getElem? (i := 22) rfl)))))))))))
theorem bw_423 : (Jvm.Cond.instanceMethod ({ cls := "CommitDeskModel", name := "back", desc := "(I)V" } : Jvm.MethodName)) ∈ BIG := List.mem_append_right _ (List.mem_append_right _ (List.mem_append_right _ (List.mem_append_right _ (List.mem_append_right _ (List.mem_append_right _ (List.mem_append_right _ (List.mem_append_right _ (List.mem_append_right _ (List.mem_append_right _ (List.mem_append_left _ (List.mem_of_getElem? (i := 23) rfl)))))))))))
theorem bw_424 : (Jvm.Cond.selects "CommitDeskModel" ({ cls := "CommitDeskModel", name := "back", desc := "(I)V" } : Jvm.MethodName) ({ cls := "CommitDeskModel", name := "back", desc := "(I)V" } : Jvm.MethodName)) ∈ BIG := List.mem_append_right _ (List.mem_append_right _ (List.mem_append_right _ (List.mem_append_right _ (List.mem_append_right _ (List.mem_append_right _ (List.mem_append_right _ (List.mem_append_right _ (List.mem_append_right _ (List.mem_append_right _ (List.mem_append_left _ (List.mem_of_getElem? (i := 24) rfl)))))))))))
theorem bw_425 : (Jvm.Cond.code ({ cls := "CommitDeskModel", name := "back", desc := "(I)V" } : Jvm.MethodName) prog_4_method_15_code (2 : Nat) (Option.none : Option Jvm.ClassFile.FieldType)) ∈ BIG := List.mem_append_right _ (List.mem_append_right _ (List.mem_append_right _ (List.mem_append_right _ (List.mem_append_right _ (List.mem_append_right _ (List.mem_append_right _ (List.mem_append_right _ (List.mem_append_right _ (List.mem_append_right _ (List.mem_append_left _ (List.mem_of_getElem? (i := 25) rfl)))))))))))
theorem bw_426 : (Jvm.Cond.methodLink "CommitDeskLaw" (97 : Nat) ({ cls := "CommitDeskModel", name := "keep", desc := "(I)V" } : Jvm.MethodName)) ∈ BIG := List.mem_append_right _ (List.mem_append_right _ (List.mem_append_right _ (List.mem_append_right _ (List.mem_append_right _ (List.mem_append_right _ (List.mem_append_right _ (List.mem_append_right _ (List.mem_append_right _ (List.mem_append_right _ (List.mem_append_left _ (List.mem_of_getElem? (i := 26) rfl)))))))))))
theorem bw_427 : (Jvm.Cond.instanceMethod ({ cls := "CommitDeskModel", name := "keep", desc := "(I)V" } : Jvm.MethodName)) ∈ BIG := List.mem_append_right _ (List.mem_append_right _ (List.mem_append_right _ (List.mem_append_right _ (List.mem_append_right _ (List.mem_append_right _ (List.mem_append_right _ (List.mem_append_right _ (List.mem_append_right _ (List.mem_append_right _ (List.mem_append_left _ (List.mem_of_getElem? (i := 27) rfl)))))))))))
theorem bw_428 : (Jvm.Cond.selects "CommitDeskModel" ({ cls := "CommitDeskModel", name := "keep", desc := "(I)V" } : Jvm.MethodName) ({ cls := "CommitDeskModel", name := "keep", desc := "(I)V" } : Jvm.MethodName)) ∈ BIG := List.mem_append_right _ (List.mem_append_right _ (List.mem_append_right _ (List.mem_append_right _ (List.mem_append_right _ (List.mem_append_right _ (List.mem_append_right _ (List.mem_append_right _ (List.mem_append_right _ (List.mem_append_right _ (List.mem_append_left _ (List.mem_of_getElem? (i := 28) rfl)))))))))))
theorem bw_429 : (Jvm.Cond.code ({ cls := "CommitDeskModel", name := "keep", desc := "(I)V" } : Jvm.MethodName) prog_4_method_16_code (2 : Nat) (Option.none : Option Jvm.ClassFile.FieldType)) ∈ BIG := List.mem_append_right _ (List.mem_append_right _ (List.mem_append_right _ (List.mem_append_right _ (List.mem_append_right _ (List.mem_append_right _ (List.mem_append_right _ (List.mem_append_right _ (List.mem_append_right _ (List.mem_append_right _ (List.mem_append_left _ (List.mem_of_getElem? (i := 29) rfl)))))))))))
theorem bw_430 : (Jvm.Cond.methodLink "CommitDeskLaw" (100 : Nat) ({ cls := "CommitDeskModel", name := "done", desc := "(I)Z" } : Jvm.MethodName)) ∈ BIG := List.mem_append_right _ (List.mem_append_right _ (List.mem_append_right _ (List.mem_append_right _ (List.mem_append_right _ (List.mem_append_right _ (List.mem_append_right _ (List.mem_append_right _ (List.mem_append_right _ (List.mem_append_right _ (List.mem_append_left _ (List.mem_of_getElem? (i := 30) rfl)))))))))))
theorem bw_431 : (Jvm.Cond.instanceMethod ({ cls := "CommitDeskModel", name := "done", desc := "(I)Z" } : Jvm.MethodName)) ∈ BIG := List.mem_append_right _ (List.mem_append_right _ (List.mem_append_right _ (List.mem_append_right _ (List.mem_append_right _ (List.mem_append_right _ (List.mem_append_right _ (List.mem_append_right _ (List.mem_append_right _ (List.mem_append_right _ (List.mem_append_left _ (List.mem_of_getElem? (i := 31) rfl)))))))))))
theorem bw_432 : (Jvm.Cond.selects "CommitDeskModel" ({ cls := "CommitDeskModel", name := "done", desc := "(I)Z" } : Jvm.MethodName) ({ cls := "CommitDeskModel", name := "done", desc := "(I)Z" } : Jvm.MethodName)) ∈ BIG := List.mem_append_right _ (List.mem_append_right _ (List.mem_append_right _ (List.mem_append_right _ (List.mem_append_right _ (List.mem_append_right _ (List.mem_append_right _ (List.mem_append_right _ (List.mem_append_right _ (List.mem_append_right _ (List.mem_append_left _ (List.mem_of_getElem? (i := 32) rfl)))))))))))
theorem bw_433 : (Jvm.Cond.code ({ cls := "CommitDeskModel", name := "done", desc := "(I)Z" } : Jvm.MethodName) prog_4_method_17_code (3 : Nat) (Option.some Jvm.ClassFile.FieldType.boolean)) ∈ BIG := List.mem_append_right _ (List.mem_append_right _ (List.mem_append_right _ (List.mem_append_right _ (List.mem_append_right _ (List.mem_append_right _ (List.mem_append_right _ (List.mem_append_right _ (List.mem_append_right _ (List.mem_append_right _ (List.mem_append_left _ (List.mem_of_getElem? (i := 33) rfl)))))))))))
theorem bw_434 : (Jvm.Cond.methodLink "CommitDeskModel" (73 : Nat) ({ cls := "CommitDeskModel", name := "change", desc := "(IJ)V" } : Jvm.MethodName)) ∈ BIG := List.mem_append_right _ (List.mem_append_right _ (List.mem_append_right _ (List.mem_append_right _ (List.mem_append_right _ (List.mem_append_right _ (List.mem_append_right _ (List.mem_append_right _ (List.mem_append_right _ (List.mem_append_right _ (List.mem_append_left _ (List.mem_of_getElem? (i := 34) rfl)))))))))))
theorem bw_435 : (Jvm.Cond.instanceMethod ({ cls := "CommitDeskModel", name := "change", desc := "(IJ)V" } : Jvm.MethodName)) ∈ BIG := List.mem_append_right _ (List.mem_append_right _ (List.mem_append_right _ (List.mem_append_right _ (List.mem_append_right _ (List.mem_append_right _ (List.mem_append_right _ (List.mem_append_right _ (List.mem_append_right _ (List.mem_append_right _ (List.mem_append_left _ (List.mem_of_getElem? (i := 35) rfl)))))))))))
theorem bw_436 : (Jvm.Cond.code ({ cls := "CommitDeskModel", name := "change", desc := "(IJ)V" } : Jvm.MethodName) prog_4_method_9_code (4 : Nat) (Option.none : Option Jvm.ClassFile.FieldType)) ∈ BIG := List.mem_append_right _ (List.mem_append_right _ (List.mem_append_right _ (List.mem_append_right _ (List.mem_append_right _ (List.mem_append_right _ (List.mem_append_right _ (List.mem_append_right _ (List.mem_append_right _ (List.mem_append_right _ (List.mem_append_left _ (List.mem_of_getElem? (i := 36) rfl)))))))))))
theorem bw_437 : (Jvm.Cond.methodLink "CommitDeskLaw" (103 : Nat) ({ cls := "CommitDeskModel", name := "leave", desc := "(I)V" } : Jvm.MethodName)) ∈ BIG := List.mem_append_right _ (List.mem_append_right _ (List.mem_append_right _ (List.mem_append_right _ (List.mem_append_right _ (List.mem_append_right _ (List.mem_append_right _ (List.mem_append_right _ (List.mem_append_right _ (List.mem_append_right _ (List.mem_append_left _ (List.mem_of_getElem? (i := 37) rfl)))))))))))
theorem bw_438 : (Jvm.Cond.instanceMethod ({ cls := "CommitDeskModel", name := "leave", desc := "(I)V" } : Jvm.MethodName)) ∈ BIG := List.mem_append_right _ (List.mem_append_right _ (List.mem_append_right _ (List.mem_append_right _ (List.mem_append_right _ (List.mem_append_right _ (List.mem_append_right _ (List.mem_append_right _ (List.mem_append_right _ (List.mem_append_right _ (List.mem_append_left _ (List.mem_of_getElem? (i := 38) rfl)))))))))))
theorem bw_439 : (Jvm.Cond.selects "CommitDeskModel" ({ cls := "CommitDeskModel", name := "leave", desc := "(I)V" } : Jvm.MethodName) ({ cls := "CommitDeskModel", name := "leave", desc := "(I)V" } : Jvm.MethodName)) ∈ BIG := List.mem_append_right _ (List.mem_append_right _ (List.mem_append_right _ (List.mem_append_right _ (List.mem_append_right _ (List.mem_append_right _ (List.mem_append_right _ (List.mem_append_right _ (List.mem_append_right _ (List.mem_append_right _ (List.mem_append_left _ (List.mem_of_getElem? (i := 39) rfl)))))))))))
theorem bw_440 : (Jvm.Cond.code ({ cls := "CommitDeskModel", name := "leave", desc := "(I)V" } : Jvm.MethodName) prog_4_method_18_code (2 : Nat) (Option.none : Option Jvm.ClassFile.FieldType)) ∈ BIG := List.mem_append_right _ (List.mem_append_right _ (List.mem_append_right _ (List.mem_append_right _ (List.mem_append_right _ (List.mem_append_right _ (List.mem_append_right _ (List.mem_append_right _ (List.mem_append_right _ (List.mem_append_right _ (List.mem_append_right _ (List.mem_of_getElem? (i := 0) rfl)))))))))))
theorem bw_441 : (Jvm.Cond.methodLink "CommitDeskLaw" (107 : Nat) ({ cls := "CommitDeskModel", name := "set", desc := "(IJ)V" } : Jvm.MethodName)) ∈ BIG := List.mem_append_right _ (List.mem_append_right _ (List.mem_append_right _ (List.mem_append_right _ (List.mem_append_right _ (List.mem_append_right _ (List.mem_append_right _ (List.mem_append_right _ (List.mem_append_right _ (List.mem_append_right _ (List.mem_append_right _ (List.mem_of_getElem? (i := 1) rfl)))))))))))
theorem bw_442 : (Jvm.Cond.instanceMethod ({ cls := "CommitDeskModel", name := "set", desc := "(IJ)V" } : Jvm.MethodName)) ∈ BIG := List.mem_append_right _ (List.mem_append_right _ (List.mem_append_right _ (List.mem_append_right _ (List.mem_append_right _ (List.mem_append_right _ (List.mem_append_right _ (List.mem_append_right _ (List.mem_append_right _ (List.mem_append_right _ (List.mem_append_right _ (List.mem_of_getElem? (i := 2) rfl)))))))))))
theorem bw_443 : (Jvm.Cond.selects "CommitDeskModel" ({ cls := "CommitDeskModel", name := "set", desc := "(IJ)V" } : Jvm.MethodName) ({ cls := "CommitDeskModel", name := "set", desc := "(IJ)V" } : Jvm.MethodName)) ∈ BIG := List.mem_append_right _ (List.mem_append_right _ (List.mem_append_right _ (List.mem_append_right _ (List.mem_append_right _ (List.mem_append_right _ (List.mem_append_right _ (List.mem_append_right _ (List.mem_append_right _ (List.mem_append_right _ (List.mem_append_right _ (List.mem_of_getElem? (i := 3) rfl)))))))))))
theorem bw_444 : (Jvm.Cond.code ({ cls := "CommitDeskModel", name := "set", desc := "(IJ)V" } : Jvm.MethodName) prog_4_method_19_code (4 : Nat) (Option.none : Option Jvm.ClassFile.FieldType)) ∈ BIG := List.mem_append_right _ (List.mem_append_right _ (List.mem_append_right _ (List.mem_append_right _ (List.mem_append_right _ (List.mem_append_right _ (List.mem_append_right _ (List.mem_append_right _ (List.mem_append_right _ (List.mem_append_right _ (List.mem_append_right _ (List.mem_of_getElem? (i := 4) rfl)))))))))))
theorem bw_445 : (Jvm.Cond.methodLink "CommitDeskLaw" (110 : Nat) ({ cls := "CommitDeskModel", name := "cell", desc := "(I)J" } : Jvm.MethodName)) ∈ BIG := List.mem_append_right _ (List.mem_append_right _ (List.mem_append_right _ (List.mem_append_right _ (List.mem_append_right _ (List.mem_append_right _ (List.mem_append_right _ (List.mem_append_right _ (List.mem_append_right _ (List.mem_append_right _ (List.mem_append_right _ (List.mem_of_getElem? (i := 5) rfl)))))))))))
theorem bw_446 : (Jvm.Cond.instanceMethod ({ cls := "CommitDeskModel", name := "cell", desc := "(I)J" } : Jvm.MethodName)) ∈ BIG := List.mem_append_right _ (List.mem_append_right _ (List.mem_append_right _ (List.mem_append_right _ (List.mem_append_right _ (List.mem_append_right _ (List.mem_append_right _ (List.mem_append_right _ (List.mem_append_right _ (List.mem_append_right _ (List.mem_append_right _ (List.mem_of_getElem? (i := 6) rfl)))))))))))
theorem bw_447 : (Jvm.Cond.selects "CommitDeskModel" ({ cls := "CommitDeskModel", name := "cell", desc := "(I)J" } : Jvm.MethodName) ({ cls := "CommitDeskModel", name := "cell", desc := "(I)J" } : Jvm.MethodName)) ∈ BIG := List.mem_append_right _ (List.mem_append_right _ (List.mem_append_right _ (List.mem_append_right _ (List.mem_append_right _ (List.mem_append_right _ (List.mem_append_right _ (List.mem_append_right _ (List.mem_append_right _ (List.mem_append_right _ (List.mem_append_right _ (List.mem_of_getElem? (i := 7) rfl)))))))))))
theorem bw_448 : (Jvm.Cond.code ({ cls := "CommitDeskModel", name := "cell", desc := "(I)J" } : Jvm.MethodName) prog_4_method_20_code (2 : Nat) (Option.some Jvm.ClassFile.FieldType.long)) ∈ BIG := List.mem_append_right _ (List.mem_append_right _ (List.mem_append_right _ (List.mem_append_right _ (List.mem_append_right _ (List.mem_append_right _ (List.mem_append_right _ (List.mem_append_right _ (List.mem_append_right _ (List.mem_append_right _ (List.mem_append_right _ (List.mem_of_getElem? (i := 8) rfl)))))))))))
theorem bw_449 : (Jvm.Cond.methodLink "CommitDeskLaw" (113 : Nat) ({ cls := "CommitDeskModel", name := "changed", desc := "(I)I" } : Jvm.MethodName)) ∈ BIG := List.mem_append_right _ (List.mem_append_right _ (List.mem_append_right _ (List.mem_append_right _ (List.mem_append_right _ (List.mem_append_right _ (List.mem_append_right _ (List.mem_append_right _ (List.mem_append_right _ (List.mem_append_right _ (List.mem_append_right _ (List.mem_of_getElem? (i := 9) rfl)))))))))))
theorem bw_450 : (Jvm.Cond.instanceMethod ({ cls := "CommitDeskModel", name := "changed", desc := "(I)I" } : Jvm.MethodName)) ∈ BIG := List.mem_append_right _ (List.mem_append_right _ (List.mem_append_right _ (List.mem_append_right _ (List.mem_append_right _ (List.mem_append_right _ (List.mem_append_right _ (List.mem_append_right _ (List.mem_append_right _ (List.mem_append_right _ (List.mem_append_right _ (List.mem_of_getElem? (i := 10) rfl)))))))))))
theorem bw_451 : (Jvm.Cond.selects "CommitDeskModel" ({ cls := "CommitDeskModel", name := "changed", desc := "(I)I" } : Jvm.MethodName) ({ cls := "CommitDeskModel", name := "changed", desc := "(I)I" } : Jvm.MethodName)) ∈ BIG := List.mem_append_right _ (List.mem_append_right _ (List.mem_append_right _ (List.mem_append_right _ (List.mem_append_right _ (List.mem_append_right _ (List.mem_append_right _ (List.mem_append_right _ (List.mem_append_right _ (List.mem_append_right _ (List.mem_append_right _ (List.mem_of_getElem? (i := 11) rfl)))))))))))
theorem bw_452 : (Jvm.Cond.code ({ cls := "CommitDeskModel", name := "changed", desc := "(I)I" } : Jvm.MethodName) prog_4_method_21_code (2 : Nat) (Option.some Jvm.ClassFile.FieldType.int)) ∈ BIG := List.mem_append_right _ (List.mem_append_right _ (List.mem_append_right _ (List.mem_append_right _ (List.mem_append_right _ (List.mem_append_right _ (List.mem_append_right _ (List.mem_append_right _ (List.mem_append_right _ (List.mem_append_right _ (List.mem_append_right _ (List.mem_of_getElem? (i := 12) rfl)))))))))))
theorem bw_453 : (Jvm.Cond.methodLink "CommitDeskLaw" (116 : Nat) ({ cls := "CommitDeskModel", name := "count", desc := "(II)I" } : Jvm.MethodName)) ∈ BIG := List.mem_append_right _ (List.mem_append_right _ (List.mem_append_right _ (List.mem_append_right _ (List.mem_append_right _ (List.mem_append_right _ (List.mem_append_right _ (List.mem_append_right _ (List.mem_append_right _ (List.mem_append_right _ (List.mem_append_right _ (List.mem_of_getElem? (i := 13) rfl)))))))))))
theorem bw_454 : (Jvm.Cond.instanceMethod ({ cls := "CommitDeskModel", name := "count", desc := "(II)I" } : Jvm.MethodName)) ∈ BIG := List.mem_append_right _ (List.mem_append_right _ (List.mem_append_right _ (List.mem_append_right _ (List.mem_append_right _ (List.mem_append_right _ (List.mem_append_right _ (List.mem_append_right _ (List.mem_append_right _ (List.mem_append_right _ (List.mem_append_right _ (List.mem_of_getElem? (i := 14) rfl)))))))))))
theorem bw_455 : (Jvm.Cond.selects "CommitDeskModel" ({ cls := "CommitDeskModel", name := "count", desc := "(II)I" } : Jvm.MethodName) ({ cls := "CommitDeskModel", name := "count", desc := "(II)I" } : Jvm.MethodName)) ∈ BIG := List.mem_append_right _ (List.mem_append_right _ (List.mem_append_right _ (List.mem_append_right _ (List.mem_append_right _ (List.mem_append_right _ (List.mem_append_right _ (List.mem_append_right _ (List.mem_append_right _ (List.mem_append_right _ (List.mem_append_right _ (List.mem_of_getElem? (i := 15) rfl)))))))))))
theorem bw_456 : (Jvm.Cond.code ({ cls := "CommitDeskModel", name := "count", desc := "(II)I" } : Jvm.MethodName) prog_4_method_22_code (5 : Nat) (Option.some Jvm.ClassFile.FieldType.int)) ∈ BIG := List.mem_append_right _ (List.mem_append_right _ (List.mem_append_right _ (List.mem_append_right _ (List.mem_append_right _ (List.mem_append_right _ (List.mem_append_right _ (List.mem_append_right _ (List.mem_append_right _ (List.mem_append_right _ (List.mem_append_right _ (List.mem_of_getElem? (i := 16) rfl)))))))))))
theorem bw_457 : (Jvm.Cond.constantLong "CommitDeskModel" (80 : Nat) (3 : Int64)) ∈ BIG := List.mem_append_right _ (List.mem_append_right _ (List.mem_append_right _ (List.mem_append_right _ (List.mem_append_right _ (List.mem_append_right _ (List.mem_append_right _ (List.mem_append_right _ (List.mem_append_right _ (List.mem_append_right _ (List.mem_append_right _ (List.mem_of_getElem? (i := 17) rfl)))))))))))
theorem bw_458 : (Jvm.Cond.methodLink "CommitDeskLaw" (119 : Nat) ({ cls := "CommitDeskModel", name := "all", desc := "(I)I" } : Jvm.MethodName)) ∈ BIG := List.mem_append_right _ (List.mem_append_right _ (List.mem_append_right _ (List.mem_append_right _ (List.mem_append_right _ (List.mem_append_right _ (List.mem_append_right _ (List.mem_append_right _ (List.mem_append_right _ (List.mem_append_right _ (List.mem_append_right _ (List.mem_of_getElem? (i := 18) rfl)))))))))))
theorem bw_459 : (Jvm.Cond.instanceMethod ({ cls := "CommitDeskModel", name := "all", desc := "(I)I" } : Jvm.MethodName)) ∈ BIG := List.mem_append_right _ (List.mem_append_right _ (List.mem_append_right _ (List.mem_append_right _ (List.mem_append_right _ (List.mem_append_right _ (List.mem_append_right _ (List.mem_append_right _ (List.mem_append_right _ (List.mem_append_right _ (List.mem_append_right _ (List.mem_of_getElem? (i := 19) rfl)))))))))))
theorem bw_460 : (Jvm.Cond.selects "CommitDeskModel" ({ cls := "CommitDeskModel", name := "all", desc := "(I)I" } : Jvm.MethodName) ({ cls := "CommitDeskModel", name := "all", desc := "(I)I" } : Jvm.MethodName)) ∈ BIG := List.mem_append_right _ (List.mem_append_right _ (List.mem_append_right _ (List.mem_append_right _ (List.mem_append_right _ (List.mem_append_right _ (List.mem_append_right _ (List.mem_append_right _ (List.mem_append_right _ (List.mem_append_right _ (List.mem_append_right _ (List.mem_of_getElem? (i := 20) rfl)))))))))))
theorem bw_461 : (Jvm.Cond.code ({ cls := "CommitDeskModel", name := "all", desc := "(I)I" } : Jvm.MethodName) prog_4_method_23_code (4 : Nat) (Option.some Jvm.ClassFile.FieldType.int)) ∈ BIG := List.mem_append_right _ (List.mem_append_right _ (List.mem_append_right _ (List.mem_append_right _ (List.mem_append_right _ (List.mem_append_right _ (List.mem_append_right _ (List.mem_append_right _ (List.mem_append_right _ (List.mem_append_right _ (List.mem_append_right _ (List.mem_of_getElem? (i := 21) rfl)))))))))))
theorem bw_462 : (Jvm.Cond.constantLong "CommitDeskModel" (82 : Nat) (2 : Int64)) ∈ BIG := List.mem_append_right _ (List.mem_append_right _ (List.mem_append_right _ (List.mem_append_right _ (List.mem_append_right _ (List.mem_append_right _ (List.mem_append_right _ (List.mem_append_right _ (List.mem_append_right _ (List.mem_append_right _ (List.mem_append_right _ (List.mem_of_getElem? (i := 22) rfl)))))))))))
theorem bw_463 : (Jvm.Cond.constantLong "CommitDeskLaw" (82 : Nat) (4294967295 : Int64)) ∈ BIG := List.mem_append_right _ (List.mem_append_right _ (List.mem_append_right _ (List.mem_append_right _ (List.mem_append_right _ (List.mem_append_right _ (List.mem_append_right _ (List.mem_append_right _ (List.mem_append_right _ (List.mem_append_right _ (List.mem_append_right _ (List.mem_of_getElem? (i := 23) rfl)))))))))))
theorem BIG_all : BIG.all goodWord = true := by
  unfold BIG
  simp only [List.all_append, BIG_g0, BIG_g1, BIG_g2, BIG_g3, BIG_g4, BIG_g5, BIG_g6, BIG_g7, BIG_g8, BIG_g9, BIG_g10, BIG_g11, Bool.and_self]
theorem BIG_good {c : Cond} (h : c ∈ BIG) : GoodIn BIG (c :: BIG) := fun w hw => by
  have hm : w ∈ BIG := (List.mem_cons.mp hw).elim (fun e => by rw [e]; exact h) id
  exact ⟨hm, good_of_word (List.all_eq_true.mp BIG_all w hm)⟩
theorem BIG_V {own C : String} {index : Nat} {y : MethodName} {c : Cond} (h1 : Cond.methodLink own index y ∈ BIG) (h2 : Cond.instanceMethod y ∈ BIG) (h3 : Cond.selects C y y ∈ BIG) (h4 : Cond.initialized C ∈ BIG) (h : c ∈ BIG) : GoodIn BIG (wsV own index C y (c :: BIG)) := fun w hw => by
  unfold wsV at hw
  rcases List.mem_append.mp hw with q | q
  · have hm : w ∈ BIG := by
      simp only [List.mem_cons, List.not_mem_nil, or_false] at q
      rcases q with rfl | rfl | rfl | rfl
      · exact h1
      · exact h2
      · exact h3
      · exact h4
    exact ⟨hm, good_of_word (List.all_eq_true.mp BIG_all w hm)⟩
  · exact BIG_good h w q
theorem BIG_S {own : String} {index : Nat} {y : MethodName} {c : Cond} (h1 : Cond.methodLink own index y ∈ BIG) (h2 : Cond.static y ∈ BIG) (h3 : Cond.initialized own ∈ BIG) (h : c ∈ BIG) : GoodIn BIG (wsS own index y (c :: BIG)) := fun w hw => by
  unfold wsS at hw
  rcases List.mem_append.mp hw with q | q
  · have hm : w ∈ BIG := by
      simp only [List.mem_cons, List.not_mem_nil, or_false] at q
      rcases q with rfl | rfl | rfl
      · exact h1
      · exact h2
      · exact h3
    exact ⟨hm, good_of_word (List.all_eq_true.mp BIG_all w hm)⟩
  · exact BIG_good h w q
theorem in_T : ∀ w ∈ u_ws R_T F_T 6, w ∈ BIG := fun w hw => by
  obtain ⟨k, hk, rfl⟩ := List.mem_map.mp hw
  have hk2 : k < 6 := List.mem_range.mp hk
  rcases (show k = 0 ∨ k = 1 ∨ k = 2 ∨ k = 3 ∨ k = 4 ∨ k = 5 by omega) with rfl | rfl | rfl | rfl | rfl | rfl
  · exact bw_47
  · exact bw_48
  · exact bw_49
  · exact bw_50
  · exact bw_51
  · exact bw_52
theorem in_D : ∀ w ∈ u_ws R_D F_D 5, w ∈ BIG := fun w hw => by
  obtain ⟨k, hk, rfl⟩ := List.mem_map.mp hw
  have hk2 : k < 5 := List.mem_range.mp hk
  rcases (show k = 0 ∨ k = 1 ∨ k = 2 ∨ k = 3 ∨ k = 4 by omega) with rfl | rfl | rfl | rfl | rfl
  · exact bw_61
  · exact bw_62
  · exact bw_63
  · exact bw_64
  · exact bw_65
theorem in_M : ∀ w ∈ u_ws R_M F_M 11, w ∈ BIG := fun w hw => by
  obtain ⟨k, hk, rfl⟩ := List.mem_map.mp hw
  have hk2 : k < 11 := List.mem_range.mp hk
  rcases (show k = 0 ∨ k = 1 ∨ k = 2 ∨ k = 3 ∨ k = 4 ∨ k = 5 ∨ k = 6 ∨ k = 7 ∨ k = 8 ∨ k = 9 ∨ k = 10 by omega) with rfl | rfl | rfl | rfl | rfl | rfl | rfl | rfl | rfl | rfl | rfl
  · exact bw_366
  · exact bw_367
  · exact bw_368
  · exact bw_369
  · exact bw_370
  · exact bw_371
  · exact bw_372
  · exact bw_373
  · exact bw_374
  · exact bw_375
  · exact bw_376
abbrev c_D_init : ByteArray := prog_1_method_1_code
abbrev w_D_init : List Cond := .code y_D_init c_D_init 2 none :: BIG
abbrev c_T_init : ByteArray := prog_2_method_1_code
abbrev w_T_init : List Cond := .code y_T_init c_T_init 1 none :: BIG
abbrev c_L_begin : ByteArray := method_3_code
abbrev w_L_begin : List Cond := .codeWith y_L_begin c_L_begin 3 (some .int) [(0, 5, 8, 13), (0, 5, 11, 15)] :: BIG
abbrev c_D_begin : ByteArray := prog_1_method_2_code
abbrev w_D_begin : List Cond := .code y_D_begin c_D_begin 3 none :: BIG
abbrev c_D_transactionOf : ByteArray := prog_1_method_15_code
abbrev w_D_transactionOf : List Cond := .code y_D_transactionOf c_D_transactionOf 2 (some (.object "CommitDesk$Transaction")) :: BIG
abbrev c_T_isOpen : ByteArray := prog_2_method_2_code
abbrev w_T_isOpen : List Cond := .code y_T_isOpen c_T_isOpen 1 (some .boolean) :: BIG
abbrev c_T_start : ByteArray := prog_2_method_7_code
abbrev w_T_start : List Cond := .code y_T_start c_T_start 1 none :: BIG
abbrev c_L_read : ByteArray := method_4_code
abbrev w_L_read : List Cond := .codeWith y_L_read c_L_read 5 (some .int) [(0, 9, 12, 13), (0, 9, 16, 21), (0, 9, 20, 15), (0, 9, 24, 23)] :: BIG
abbrev c_D_read : ByteArray := prog_1_method_3_code
abbrev w_D_read : List Cond := .code y_D_read c_D_read 5 (some .long) :: BIG
abbrev c_D_openTransactionAt : ByteArray := prog_1_method_18_code
abbrev w_D_openTransactionAt : List Cond := .code y_D_openTransactionAt c_D_openTransactionAt 3 (some (.object "CommitDesk$Transaction")) :: BIG
abbrev c_D_requireCell : ByteArray := prog_1_method_16_code
abbrev w_D_requireCell : List Cond := .code y_D_requireCell c_D_requireCell 2 none :: BIG
abbrev c_D_openTransactionOf : ByteArray := prog_1_method_17_code
abbrev w_D_openTransactionOf : List Cond := .code y_D_openTransactionOf c_D_openTransactionOf 3 (some (.object "CommitDesk$Transaction")) :: BIG
abbrev c_T_lastPartWith : ByteArray := prog_2_method_11_code
abbrev w_T_lastPartWith : List Cond := .code y_T_lastPartWith c_T_lastPartWith 3 (some .int) :: BIG
abbrev c_T_holds : ByteArray := prog_2_method_18_code
abbrev w_T_holds : List Cond := .code y_T_holds c_T_holds 2 (some .boolean) :: BIG
abbrev c_T_writtenIn : ByteArray := prog_2_method_12_code
abbrev w_T_writtenIn : List Cond := .code y_T_writtenIn c_T_writtenIn 3 (some .long) :: BIG
abbrev c_T_isStale : ByteArray := prog_2_method_3_code
abbrev w_T_isStale : List Cond := .code y_T_isStale c_T_isStale 1 (some .boolean) :: BIG
abbrev c_D_endStale : ByteArray := prog_1_method_20_code
abbrev w_D_endStale : List Cond := .code y_D_endStale c_D_endStale 2 none :: BIG
abbrev c_T_close : ByteArray := prog_2_method_8_code
abbrev w_T_close : List Cond := .code y_T_close c_T_close 1 none :: BIG
abbrev c_T_markRead : ByteArray := prog_2_method_9_code
abbrev w_T_markRead : List Cond := .code y_T_markRead c_T_markRead 2 none :: BIG
abbrev c_L_write : ByteArray := method_5_code
abbrev w_L_write : List Cond := .codeWith y_L_write c_L_write 6 (some .int) [(0, 7, 10, 13), (0, 7, 14, 21), (0, 7, 18, 15)] :: BIG
abbrev c_D_write : ByteArray := prog_1_method_4_code
abbrev w_D_write : List Cond := .code y_D_write c_D_write 5 none :: BIG
abbrev c_T_putInLastPart : ByteArray := prog_2_method_13_code
abbrev w_T_putInLastPart : List Cond := .code y_T_putInLastPart c_T_putInLastPart 4 none :: BIG
abbrev c_T_putInPart : ByteArray := prog_2_method_17_code
abbrev w_T_putInPart : List Cond := .code y_T_putInPart c_T_putInPart 5 none :: BIG
abbrev c_L_save : ByteArray := method_6_code
abbrev w_L_save : List Cond := .codeWith y_L_save c_L_save 4 (some .int) [(0, 9, 12, 13), (0, 9, 15, 15), (0, 9, 18, 23)] :: BIG
abbrev c_D_save : ByteArray := prog_1_method_5_code
abbrev w_D_save : List Cond := .code y_D_save c_D_save 3 (some .int) :: BIG
abbrev c_T_partCount : ByteArray := prog_2_method_4_code
abbrev w_T_partCount : List Cond := .code y_T_partCount c_T_partCount 1 (some .int) :: BIG
abbrev c_T_addPart : ByteArray := prog_2_method_14_code
abbrev w_T_addPart : List Cond := .code y_T_addPart c_T_addPart 1 none :: BIG
abbrev c_L_back : ByteArray := method_7_code
abbrev w_L_back : List Cond := .codeWith y_L_back c_L_back 3 (some .int) [(0, 5, 8, 13), (0, 5, 11, 15), (0, 5, 14, 23)] :: BIG
abbrev c_D_back : ByteArray := prog_1_method_6_code
abbrev w_D_back : List Cond := .code y_D_back c_D_back 2 none :: BIG
abbrev c_D_transactionWithSeveralParts : ByteArray := prog_1_method_19_code
abbrev w_D_transactionWithSeveralParts : List Cond := .code y_D_transactionWithSeveralParts c_D_transactionWithSeveralParts 3 (some (.object "CommitDesk$Transaction")) :: BIG
abbrev c_T_dropLastPart : ByteArray := prog_2_method_15_code
abbrev w_T_dropLastPart : List Cond := .code y_T_dropLastPart c_T_dropLastPart 1 none :: BIG
abbrev c_L_keep : ByteArray := method_8_code
abbrev w_L_keep : List Cond := .codeWith y_L_keep c_L_keep 3 (some .int) [(0, 5, 8, 13), (0, 5, 11, 15), (0, 5, 14, 23)] :: BIG
abbrev c_D_keep : ByteArray := prog_1_method_7_code
abbrev w_D_keep : List Cond := .code y_D_keep c_D_keep 2 none :: BIG
abbrev c_T_mergeLastPart : ByteArray := prog_2_method_16_code
abbrev w_T_mergeLastPart : List Cond := .code y_T_mergeLastPart c_T_mergeLastPart 3 none :: BIG
abbrev c_L_done : ByteArray := method_9_code
abbrev w_L_done : List Cond := .codeWith y_L_done c_L_done 4 (some .int) [(0, 16, 19, 13), (0, 16, 22, 15)] :: BIG
abbrev c_D_done : ByteArray := prog_1_method_8_code
abbrev w_D_done : List Cond := .code y_D_done c_D_done 5 (some .boolean) :: BIG
abbrev c_D_change : ByteArray := prog_1_method_21_code
abbrev w_D_change : List Cond := .code y_D_change c_D_change 5 none :: BIG
abbrev c_T_noteChange : ByteArray := prog_2_method_10_code
abbrev w_T_noteChange : List Cond := .code y_T_noteChange c_T_noteChange 2 none :: BIG
abbrev c_L_leave : ByteArray := method_10_code
abbrev w_L_leave : List Cond := .codeWith y_L_leave c_L_leave 3 (some .int) [(0, 5, 8, 13), (0, 5, 11, 15)] :: BIG
abbrev c_D_leave : ByteArray := prog_1_method_9_code
abbrev w_D_leave : List Cond := .code y_D_leave c_D_leave 2 none :: BIG
abbrev c_L_set : ByteArray := method_11_code
abbrev w_L_set : List Cond := .codeWith y_L_set c_L_set 5 (some .int) [(0, 6, 9, 21)] :: BIG
abbrev c_D_set : ByteArray := prog_1_method_10_code
abbrev w_D_set : List Cond := .code y_D_set c_D_set 4 none :: BIG
abbrev c_L_cell : ByteArray := method_12_code
abbrev w_L_cell : List Cond := .codeWith y_L_cell c_L_cell 4 (some .int) [(0, 8, 11, 21)] :: BIG
abbrev c_D_cell : ByteArray := prog_1_method_11_code
abbrev w_D_cell : List Cond := .code y_D_cell c_D_cell 2 (some .long) :: BIG
abbrev c_L_changed : ByteArray := method_13_code
abbrev w_L_changed : List Cond := .codeWith y_L_changed c_L_changed 4 (some .int) [(0, 9, 12, 21)] :: BIG
abbrev c_D_changed : ByteArray := prog_1_method_12_code
abbrev w_D_changed : List Cond := .code y_D_changed c_D_changed 2 (some .int) :: BIG
abbrev c_L_count : ByteArray := method_14_code
abbrev w_L_count : List Cond := .codeWith y_L_count c_L_count 5 (some .int) [(0, 10, 13, 13), (0, 10, 17, 15)] :: BIG
abbrev c_D_count : ByteArray := prog_1_method_13_code
abbrev w_D_count : List Cond := .code y_D_count c_D_count 4 (some .int) :: BIG
abbrev c_T_readCount : ByteArray := prog_2_method_5_code
abbrev w_T_readCount : List Cond := .code y_T_readCount c_T_readCount 1 (some .int) :: BIG
abbrev c_J_bitCount : ByteArray := prog_9_method_49_code
abbrev w_J_bitCount : List Cond := .code y_J_bitCount c_J_bitCount 1 (some .int) :: BIG
abbrev c_T_writtenCount : ByteArray := prog_2_method_6_code
abbrev w_T_writtenCount : List Cond := .code y_T_writtenCount c_T_writtenCount 3 (some .int) :: BIG
abbrev c_L_all : ByteArray := method_15_code
abbrev w_L_all : List Cond := .codeWith y_L_all c_L_all 4 (some .int) [(0, 9, 12, 13)] :: BIG
abbrev c_D_all : ByteArray := prog_1_method_14_code
abbrev w_D_all : List Cond := .code y_D_all c_D_all 2 (some .int) :: BIG
abbrev c_D_openTotal : ByteArray := prog_1_method_22_code
abbrev w_D_openTotal : List Cond := .code y_D_openTotal c_D_openTotal 3 (some .int) :: BIG
abbrev c_M_init : ByteArray := prog_4_method_1_code
abbrev w_M_init : List Cond := .code y_M_init c_M_init 1 none :: BIG
abbrev c_M_thrown : ByteArray := prog_4_method_2_code
abbrev w_M_thrown : List Cond := .code y_M_thrown c_M_thrown 1 (some .int) :: BIG
abbrev c_M_begin : ByteArray := prog_4_method_10_code
abbrev w_M_begin : List Cond := .code y_M_begin c_M_begin 3 none :: BIG
abbrev c_M_isOne : ByteArray := prog_4_method_5_code
abbrev w_M_isOne : List Cond := .code y_M_isOne c_M_isOne 1 (some .boolean) :: BIG
abbrev c_M_in : ByteArray := prog_4_method_3_code
abbrev w_M_in : List Cond := .code y_M_in c_M_in 6 (some .boolean) :: BIG
abbrev c_M_fails : ByteArray := prog_4_method_4_code
abbrev w_M_fails : List Cond := .code y_M_fails c_M_fails 3 (some .boolean) :: BIG
abbrev c_M_last : ByteArray := prog_4_method_7_code
abbrev w_M_last : List Cond := .code y_M_last c_M_last 3 (some .int) :: BIG
abbrev c_M_read : ByteArray := prog_4_method_11_code
abbrev w_M_read : List Cond := .code y_M_read c_M_read 3 (some .long) :: BIG
abbrev c_M_isCell : ByteArray := prog_4_method_6_code
abbrev w_M_isCell : List Cond := .code y_M_isCell c_M_isCell 1 (some .boolean) :: BIG
abbrev c_M_isStale : ByteArray := prog_4_method_8_code
abbrev w_M_isStale : List Cond := .code y_M_isStale c_M_isStale 3 (some .boolean) :: BIG
abbrev c_M_write : ByteArray := prog_4_method_12_code
abbrev w_M_write : List Cond := .code y_M_write c_M_write 5 none :: BIG
abbrev c_M_save : ByteArray := prog_4_method_14_code
abbrev w_M_save : List Cond := .code y_M_save c_M_save 2 (some .int) :: BIG
abbrev c_M_copy : ByteArray := prog_4_method_13_code
abbrev w_M_copy : List Cond := .code y_M_copy c_M_copy 4 none :: BIG
abbrev c_M_back : ByteArray := prog_4_method_15_code
abbrev w_M_back : List Cond := .code y_M_back c_M_back 2 none :: BIG
abbrev c_M_keep : ByteArray := prog_4_method_16_code
abbrev w_M_keep : List Cond := .code y_M_keep c_M_keep 2 none :: BIG
abbrev c_M_done : ByteArray := prog_4_method_17_code
abbrev w_M_done : List Cond := .code y_M_done c_M_done 3 (some .boolean) :: BIG
abbrev c_M_change : ByteArray := prog_4_method_9_code
abbrev w_M_change : List Cond := .code y_M_change c_M_change 4 none :: BIG
abbrev c_M_leave : ByteArray := prog_4_method_18_code
abbrev w_M_leave : List Cond := .code y_M_leave c_M_leave 2 none :: BIG
abbrev c_M_set : ByteArray := prog_4_method_19_code
abbrev w_M_set : List Cond := .code y_M_set c_M_set 4 none :: BIG
abbrev c_M_cell : ByteArray := prog_4_method_20_code
abbrev w_M_cell : List Cond := .code y_M_cell c_M_cell 2 (some .long) :: BIG
abbrev c_M_changed : ByteArray := prog_4_method_21_code
abbrev w_M_changed : List Cond := .code y_M_changed c_M_changed 2 (some .int) :: BIG
abbrev c_M_count : ByteArray := prog_4_method_22_code
abbrev w_M_count : List Cond := .code y_M_count c_M_count 5 (some .int) :: BIG
abbrev c_M_all : ByteArray := prog_4_method_23_code
abbrev w_M_all : List Cond := .code y_M_all c_M_all 4 (some .int) :: BIG
end
section
/-! What each instruction is: class CommitDesk$Transaction. -/
theorem d_T_init_0 : decode c_T_init 0 = .ok (.aload_n 0, 1) := by decide +kernel
theorem d_T_init_1 : decode c_T_init 1 = .ok (.invokespecial 3, 3) := by decide +kernel
theorem d_T_init_4 : decode c_T_init 4 = .ok (.aload_n 0, 1) := by decide +kernel
theorem d_T_init_5 : decode c_T_init 5 = .ok (.iconst 0, 1) := by decide +kernel
theorem d_T_init_6 : decode c_T_init 6 = .ok (.putfield 9, 3) := by decide +kernel
theorem d_T_init_9 : decode c_T_init 9 = .ok (.aload_n 0, 1) := by decide +kernel
theorem d_T_init_10 : decode c_T_init 10 = .ok (.iconst 0, 1) := by decide +kernel
theorem d_T_init_11 : decode c_T_init 11 = .ok (.putfield 15, 3) := by decide +kernel
theorem d_T_init_14 : decode c_T_init 14 = .ok (.aload_n 0, 1) := by decide +kernel
theorem d_T_init_15 : decode c_T_init 15 = .ok (.iconst 0, 1) := by decide +kernel
theorem d_T_init_16 : decode c_T_init 16 = .ok (.putfield 18, 3) := by decide +kernel
theorem d_T_init_19 : decode c_T_init 19 = .ok (.aload_n 0, 1) := by decide +kernel
theorem d_T_init_20 : decode c_T_init 20 = .ok (.iconst 1, 1) := by decide +kernel
theorem d_T_init_21 : decode c_T_init 21 = .ok (.putfield 22, 3) := by decide +kernel
theorem d_T_init_24 : decode c_T_init 24 = .ok (.aload_n 0, 1) := by decide +kernel
theorem d_T_init_25 : decode c_T_init 25 = .ok (.iconst 5, 1) := by decide +kernel
theorem d_T_init_26 : decode c_T_init 26 = .ok (.newarray .int, 2) := by decide +kernel
theorem d_T_init_28 : decode c_T_init 28 = .ok (.putfield 25, 3) := by decide +kernel
theorem d_T_init_31 : decode c_T_init 31 = .ok (.aload_n 0, 1) := by decide +kernel
theorem d_T_init_32 : decode c_T_init 32 = .ok (.iconst 5, 1) := by decide +kernel
theorem d_T_init_33 : decode c_T_init 33 = .ok (.bipush 32, 2) := by decide +kernel
theorem d_T_init_35 : decode c_T_init 35 = .ok (.multianewarray 29 2, 4) := by decide +kernel
theorem d_T_init_39 : decode c_T_init 39 = .ok (.putfield 31, 3) := by decide +kernel
theorem d_T_init_42 : decode c_T_init 42 = .ok (.return_, 1) := by decide +kernel
theorem d_T_isOpen_0 : decode c_T_isOpen 0 = .ok (.aload_n 0, 1) := by decide +kernel
theorem d_T_isOpen_1 : decode c_T_isOpen 1 = .ok (.getfield 9, 3) := by decide +kernel
theorem d_T_isOpen_4 : decode c_T_isOpen 4 = .ok (.ireturn, 1) := by decide +kernel
theorem d_T_start_0 : decode c_T_start 0 = .ok (.aload_n 0, 1) := by decide +kernel
theorem d_T_start_1 : decode c_T_start 1 = .ok (.iconst 1, 1) := by decide +kernel
theorem d_T_start_2 : decode c_T_start 2 = .ok (.putfield 9, 3) := by decide +kernel
theorem d_T_start_5 : decode c_T_start 5 = .ok (.aload_n 0, 1) := by decide +kernel
theorem d_T_start_6 : decode c_T_start 6 = .ok (.iconst 0, 1) := by decide +kernel
theorem d_T_start_7 : decode c_T_start 7 = .ok (.putfield 15, 3) := by decide +kernel
theorem d_T_start_10 : decode c_T_start 10 = .ok (.aload_n 0, 1) := by decide +kernel
theorem d_T_start_11 : decode c_T_start 11 = .ok (.iconst 0, 1) := by decide +kernel
theorem d_T_start_12 : decode c_T_start 12 = .ok (.putfield 18, 3) := by decide +kernel
theorem d_T_start_15 : decode c_T_start 15 = .ok (.aload_n 0, 1) := by decide +kernel
theorem d_T_start_16 : decode c_T_start 16 = .ok (.iconst 1, 1) := by decide +kernel
theorem d_T_start_17 : decode c_T_start 17 = .ok (.putfield 22, 3) := by decide +kernel
theorem d_T_start_20 : decode c_T_start 20 = .ok (.aload_n 0, 1) := by decide +kernel
theorem d_T_start_21 : decode c_T_start 21 = .ok (.getfield 25, 3) := by decide +kernel
theorem d_T_start_24 : decode c_T_start 24 = .ok (.iconst 0, 1) := by decide +kernel
theorem d_T_start_25 : decode c_T_start 25 = .ok (.iconst 0, 1) := by decide +kernel
theorem d_T_start_26 : decode c_T_start 26 = .ok (.iastore, 1) := by decide +kernel
theorem d_T_start_27 : decode c_T_start 27 = .ok (.return_, 1) := by decide +kernel
theorem d_T_lastPartWith_0 : decode c_T_lastPartWith 0 = .ok (.aload_n 0, 1) := by decide +kernel
theorem d_T_lastPartWith_1 : decode c_T_lastPartWith 1 = .ok (.getfield 22, 3) := by decide +kernel
theorem d_T_lastPartWith_4 : decode c_T_lastPartWith 4 = .ok (.iconst 1, 1) := by decide +kernel
theorem d_T_lastPartWith_5 : decode c_T_lastPartWith 5 = .ok (.isub, 1) := by decide +kernel
theorem d_T_lastPartWith_6 : decode c_T_lastPartWith 6 = .ok (.istore_n 2, 1) := by decide +kernel
theorem d_T_lastPartWith_7 : decode c_T_lastPartWith 7 = .ok (.iload_n 2, 1) := by decide +kernel
theorem d_T_lastPartWith_8 : decode c_T_lastPartWith 8 = .ok (.ifCond .lt 24, 3) := by decide +kernel
theorem d_T_lastPartWith_11 : decode c_T_lastPartWith 11 = .ok (.aload_n 0, 1) := by decide +kernel
theorem d_T_lastPartWith_12 : decode c_T_lastPartWith 12 = .ok (.getfield 25, 3) := by decide +kernel
theorem d_T_lastPartWith_15 : decode c_T_lastPartWith 15 = .ok (.iload_n 2, 1) := by decide +kernel
theorem d_T_lastPartWith_16 : decode c_T_lastPartWith 16 = .ok (.iaload, 1) := by decide +kernel
theorem d_T_lastPartWith_17 : decode c_T_lastPartWith 17 = .ok (.iload_n 1, 1) := by decide +kernel
theorem d_T_lastPartWith_18 : decode c_T_lastPartWith 18 = .ok (.invokestatic 40, 3) := by decide +kernel
theorem d_T_lastPartWith_21 : decode c_T_lastPartWith 21 = .ok (.ifCond .eq 5, 3) := by decide +kernel
theorem d_T_lastPartWith_24 : decode c_T_lastPartWith 24 = .ok (.iload_n 2, 1) := by decide +kernel
theorem d_T_lastPartWith_25 : decode c_T_lastPartWith 25 = .ok (.ireturn, 1) := by decide +kernel
theorem d_T_lastPartWith_26 : decode c_T_lastPartWith 26 = .ok (.iinc 2 (-1), 3) := by decide +kernel
theorem d_T_lastPartWith_29 : decode c_T_lastPartWith 29 = .ok (.goto (-22), 3) := by decide +kernel
theorem d_T_lastPartWith_32 : decode c_T_lastPartWith 32 = .ok (.iconst (-1), 1) := by decide +kernel
theorem d_T_lastPartWith_33 : decode c_T_lastPartWith 33 = .ok (.ireturn, 1) := by decide +kernel
theorem d_T_holds_0 : decode c_T_holds 0 = .ok (.iload_n 0, 1) := by decide +kernel
theorem d_T_holds_1 : decode c_T_holds 1 = .ok (.iload_n 1, 1) := by decide +kernel
theorem d_T_holds_2 : decode c_T_holds 2 = .ok (.ishr, 1) := by decide +kernel
theorem d_T_holds_3 : decode c_T_holds 3 = .ok (.iconst 1, 1) := by decide +kernel
theorem d_T_holds_4 : decode c_T_holds 4 = .ok (.iand, 1) := by decide +kernel
theorem d_T_holds_5 : decode c_T_holds 5 = .ok (.iconst 1, 1) := by decide +kernel
theorem d_T_holds_6 : decode c_T_holds 6 = .ok (.if_icmp .ne 7, 3) := by decide +kernel
theorem d_T_holds_9 : decode c_T_holds 9 = .ok (.iconst 1, 1) := by decide +kernel
theorem d_T_holds_10 : decode c_T_holds 10 = .ok (.goto 4, 3) := by decide +kernel
theorem d_T_holds_13 : decode c_T_holds 13 = .ok (.iconst 0, 1) := by decide +kernel
theorem d_T_holds_14 : decode c_T_holds 14 = .ok (.ireturn, 1) := by decide +kernel
theorem d_T_writtenIn_0 : decode c_T_writtenIn 0 = .ok (.aload_n 0, 1) := by decide +kernel
theorem d_T_writtenIn_1 : decode c_T_writtenIn 1 = .ok (.getfield 31, 3) := by decide +kernel
theorem d_T_writtenIn_4 : decode c_T_writtenIn 4 = .ok (.iload_n 1, 1) := by decide +kernel
theorem d_T_writtenIn_5 : decode c_T_writtenIn 5 = .ok (.aaload, 1) := by decide +kernel
theorem d_T_writtenIn_6 : decode c_T_writtenIn 6 = .ok (.iload_n 2, 1) := by decide +kernel
theorem d_T_writtenIn_7 : decode c_T_writtenIn 7 = .ok (.laload, 1) := by decide +kernel
theorem d_T_writtenIn_8 : decode c_T_writtenIn 8 = .ok (.lreturn, 1) := by decide +kernel
theorem d_T_isStale_0 : decode c_T_isStale 0 = .ok (.aload_n 0, 1) := by decide +kernel
theorem d_T_isStale_1 : decode c_T_isStale 1 = .ok (.getfield 15, 3) := by decide +kernel
theorem d_T_isStale_4 : decode c_T_isStale 4 = .ok (.ireturn, 1) := by decide +kernel
theorem d_T_close_0 : decode c_T_close 0 = .ok (.aload_n 0, 1) := by decide +kernel
theorem d_T_close_1 : decode c_T_close 1 = .ok (.iconst 0, 1) := by decide +kernel
theorem d_T_close_2 : decode c_T_close 2 = .ok (.putfield 9, 3) := by decide +kernel
theorem d_T_close_5 : decode c_T_close 5 = .ok (.return_, 1) := by decide +kernel
theorem d_T_markRead_0 : decode c_T_markRead 0 = .ok (.aload_n 0, 1) := by decide +kernel
theorem d_T_markRead_1 : decode c_T_markRead 1 = .ok (.dup, 1) := by decide +kernel
theorem d_T_markRead_2 : decode c_T_markRead 2 = .ok (.getfield 18, 3) := by decide +kernel
theorem d_T_markRead_5 : decode c_T_markRead 5 = .ok (.iconst 1, 1) := by decide +kernel
theorem d_T_markRead_6 : decode c_T_markRead 6 = .ok (.iload_n 1, 1) := by decide +kernel
theorem d_T_markRead_7 : decode c_T_markRead 7 = .ok (.ishl, 1) := by decide +kernel
theorem d_T_markRead_8 : decode c_T_markRead 8 = .ok (.ior, 1) := by decide +kernel
theorem d_T_markRead_9 : decode c_T_markRead 9 = .ok (.putfield 18, 3) := by decide +kernel
theorem d_T_markRead_12 : decode c_T_markRead 12 = .ok (.return_, 1) := by decide +kernel
theorem d_T_putInLastPart_0 : decode c_T_putInLastPart 0 = .ok (.aload_n 0, 1) := by decide +kernel
theorem d_T_putInLastPart_1 : decode c_T_putInLastPart 1 = .ok (.aload_n 0, 1) := by decide +kernel
theorem d_T_putInLastPart_2 : decode c_T_putInLastPart 2 = .ok (.getfield 22, 3) := by decide +kernel
theorem d_T_putInLastPart_5 : decode c_T_putInLastPart 5 = .ok (.iconst 1, 1) := by decide +kernel
theorem d_T_putInLastPart_6 : decode c_T_putInLastPart 6 = .ok (.isub, 1) := by decide +kernel
theorem d_T_putInLastPart_7 : decode c_T_putInLastPart 7 = .ok (.iload_n 1, 1) := by decide +kernel
theorem d_T_putInLastPart_8 : decode c_T_putInLastPart 8 = .ok (.lload_n 2, 1) := by decide +kernel
theorem d_T_putInLastPart_9 : decode c_T_putInLastPart 9 = .ok (.invokevirtual 44, 3) := by decide +kernel
theorem d_T_putInLastPart_12 : decode c_T_putInLastPart 12 = .ok (.return_, 1) := by decide +kernel
theorem d_T_putInPart_0 : decode c_T_putInPart 0 = .ok (.aload_n 0, 1) := by decide +kernel
theorem d_T_putInPart_1 : decode c_T_putInPart 1 = .ok (.getfield 25, 3) := by decide +kernel
theorem d_T_putInPart_4 : decode c_T_putInPart 4 = .ok (.iload_n 1, 1) := by decide +kernel
theorem d_T_putInPart_5 : decode c_T_putInPart 5 = .ok (.dup2, 1) := by decide +kernel
theorem d_T_putInPart_6 : decode c_T_putInPart 6 = .ok (.iaload, 1) := by decide +kernel
theorem d_T_putInPart_7 : decode c_T_putInPart 7 = .ok (.iconst 1, 1) := by decide +kernel
theorem d_T_putInPart_8 : decode c_T_putInPart 8 = .ok (.iload_n 2, 1) := by decide +kernel
theorem d_T_putInPart_9 : decode c_T_putInPart 9 = .ok (.ishl, 1) := by decide +kernel
theorem d_T_putInPart_10 : decode c_T_putInPart 10 = .ok (.ior, 1) := by decide +kernel
theorem d_T_putInPart_11 : decode c_T_putInPart 11 = .ok (.iastore, 1) := by decide +kernel
theorem d_T_putInPart_12 : decode c_T_putInPart 12 = .ok (.aload_n 0, 1) := by decide +kernel
theorem d_T_putInPart_13 : decode c_T_putInPart 13 = .ok (.getfield 31, 3) := by decide +kernel
theorem d_T_putInPart_16 : decode c_T_putInPart 16 = .ok (.iload_n 1, 1) := by decide +kernel
theorem d_T_putInPart_17 : decode c_T_putInPart 17 = .ok (.aaload, 1) := by decide +kernel
theorem d_T_putInPart_18 : decode c_T_putInPart 18 = .ok (.iload_n 2, 1) := by decide +kernel
theorem d_T_putInPart_19 : decode c_T_putInPart 19 = .ok (.lload_n 3, 1) := by decide +kernel
theorem d_T_putInPart_20 : decode c_T_putInPart 20 = .ok (.lastore, 1) := by decide +kernel
theorem d_T_putInPart_21 : decode c_T_putInPart 21 = .ok (.return_, 1) := by decide +kernel
theorem d_T_partCount_0 : decode c_T_partCount 0 = .ok (.aload_n 0, 1) := by decide +kernel
theorem d_T_partCount_1 : decode c_T_partCount 1 = .ok (.getfield 22, 3) := by decide +kernel
theorem d_T_partCount_4 : decode c_T_partCount 4 = .ok (.ireturn, 1) := by decide +kernel
theorem d_T_addPart_0 : decode c_T_addPart 0 = .ok (.aload_n 0, 1) := by decide +kernel
theorem d_T_addPart_1 : decode c_T_addPart 1 = .ok (.getfield 25, 3) := by decide +kernel
theorem d_T_addPart_4 : decode c_T_addPart 4 = .ok (.aload_n 0, 1) := by decide +kernel
theorem d_T_addPart_5 : decode c_T_addPart 5 = .ok (.getfield 22, 3) := by decide +kernel
theorem d_T_addPart_8 : decode c_T_addPart 8 = .ok (.iconst 0, 1) := by decide +kernel
theorem d_T_addPart_9 : decode c_T_addPart 9 = .ok (.iastore, 1) := by decide +kernel
theorem d_T_addPart_10 : decode c_T_addPart 10 = .ok (.aload_n 0, 1) := by decide +kernel
theorem d_T_addPart_11 : decode c_T_addPart 11 = .ok (.dup, 1) := by decide +kernel
theorem d_T_addPart_12 : decode c_T_addPart 12 = .ok (.getfield 22, 3) := by decide +kernel
theorem d_T_addPart_15 : decode c_T_addPart 15 = .ok (.iconst 1, 1) := by decide +kernel
theorem d_T_addPart_16 : decode c_T_addPart 16 = .ok (.iadd, 1) := by decide +kernel
theorem d_T_addPart_17 : decode c_T_addPart 17 = .ok (.putfield 22, 3) := by decide +kernel
theorem d_T_addPart_20 : decode c_T_addPart 20 = .ok (.return_, 1) := by decide +kernel
theorem d_T_dropLastPart_0 : decode c_T_dropLastPart 0 = .ok (.aload_n 0, 1) := by decide +kernel
theorem d_T_dropLastPart_1 : decode c_T_dropLastPart 1 = .ok (.dup, 1) := by decide +kernel
theorem d_T_dropLastPart_2 : decode c_T_dropLastPart 2 = .ok (.getfield 22, 3) := by decide +kernel
theorem d_T_dropLastPart_5 : decode c_T_dropLastPart 5 = .ok (.iconst 1, 1) := by decide +kernel
theorem d_T_dropLastPart_6 : decode c_T_dropLastPart 6 = .ok (.isub, 1) := by decide +kernel
theorem d_T_dropLastPart_7 : decode c_T_dropLastPart 7 = .ok (.putfield 22, 3) := by decide +kernel
theorem d_T_dropLastPart_10 : decode c_T_dropLastPart 10 = .ok (.return_, 1) := by decide +kernel
theorem d_T_mergeLastPart_0 : decode c_T_mergeLastPart 0 = .ok (.aload_n 0, 1) := by decide +kernel
theorem d_T_mergeLastPart_1 : decode c_T_mergeLastPart 1 = .ok (.getfield 22, 3) := by decide +kernel
theorem d_T_mergeLastPart_4 : decode c_T_mergeLastPart 4 = .ok (.iconst 1, 1) := by decide +kernel
theorem d_T_mergeLastPart_5 : decode c_T_mergeLastPart 5 = .ok (.isub, 1) := by decide +kernel
theorem d_T_mergeLastPart_6 : decode c_T_mergeLastPart 6 = .ok (.istore_n 1, 1) := by decide +kernel
theorem d_T_mergeLastPart_7 : decode c_T_mergeLastPart 7 = .ok (.iconst 0, 1) := by decide +kernel
theorem d_T_mergeLastPart_8 : decode c_T_mergeLastPart 8 = .ok (.istore_n 2, 1) := by decide +kernel
theorem d_T_mergeLastPart_9 : decode c_T_mergeLastPart 9 = .ok (.iload_n 2, 1) := by decide +kernel
theorem d_T_mergeLastPart_10 : decode c_T_mergeLastPart 10 = .ok (.bipush 32, 2) := by decide +kernel
theorem d_T_mergeLastPart_12 : decode c_T_mergeLastPart 12 = .ok (.if_icmp .ge 38, 3) := by decide +kernel
theorem d_T_mergeLastPart_15 : decode c_T_mergeLastPart 15 = .ok (.aload_n 0, 1) := by decide +kernel
theorem d_T_mergeLastPart_16 : decode c_T_mergeLastPart 16 = .ok (.getfield 25, 3) := by decide +kernel
theorem d_T_mergeLastPart_19 : decode c_T_mergeLastPart 19 = .ok (.iload_n 1, 1) := by decide +kernel
theorem d_T_mergeLastPart_20 : decode c_T_mergeLastPart 20 = .ok (.iaload, 1) := by decide +kernel
theorem d_T_mergeLastPart_21 : decode c_T_mergeLastPart 21 = .ok (.iload_n 2, 1) := by decide +kernel
theorem d_T_mergeLastPart_22 : decode c_T_mergeLastPart 22 = .ok (.invokestatic 40, 3) := by decide +kernel
theorem d_T_mergeLastPart_25 : decode c_T_mergeLastPart 25 = .ok (.ifCond .eq 19, 3) := by decide +kernel
theorem d_T_mergeLastPart_28 : decode c_T_mergeLastPart 28 = .ok (.aload_n 0, 1) := by decide +kernel
theorem d_T_mergeLastPart_29 : decode c_T_mergeLastPart 29 = .ok (.iload_n 1, 1) := by decide +kernel
theorem d_T_mergeLastPart_30 : decode c_T_mergeLastPart 30 = .ok (.iconst 1, 1) := by decide +kernel
theorem d_T_mergeLastPart_31 : decode c_T_mergeLastPart 31 = .ok (.isub, 1) := by decide +kernel
theorem d_T_mergeLastPart_32 : decode c_T_mergeLastPart 32 = .ok (.iload_n 2, 1) := by decide +kernel
theorem d_T_mergeLastPart_33 : decode c_T_mergeLastPart 33 = .ok (.aload_n 0, 1) := by decide +kernel
theorem d_T_mergeLastPart_34 : decode c_T_mergeLastPart 34 = .ok (.getfield 31, 3) := by decide +kernel
theorem d_T_mergeLastPart_37 : decode c_T_mergeLastPart 37 = .ok (.iload_n 1, 1) := by decide +kernel
theorem d_T_mergeLastPart_38 : decode c_T_mergeLastPart 38 = .ok (.aaload, 1) := by decide +kernel
theorem d_T_mergeLastPart_39 : decode c_T_mergeLastPart 39 = .ok (.iload_n 2, 1) := by decide +kernel
theorem d_T_mergeLastPart_40 : decode c_T_mergeLastPart 40 = .ok (.laload, 1) := by decide +kernel
theorem d_T_mergeLastPart_41 : decode c_T_mergeLastPart 41 = .ok (.invokevirtual 44, 3) := by decide +kernel
theorem d_T_mergeLastPart_44 : decode c_T_mergeLastPart 44 = .ok (.iinc 2 1, 3) := by decide +kernel
theorem d_T_mergeLastPart_47 : decode c_T_mergeLastPart 47 = .ok (.goto (-38), 3) := by decide +kernel
theorem d_T_mergeLastPart_50 : decode c_T_mergeLastPart 50 = .ok (.aload_n 0, 1) := by decide +kernel
theorem d_T_mergeLastPart_51 : decode c_T_mergeLastPart 51 = .ok (.invokevirtual 48, 3) := by decide +kernel
theorem d_T_mergeLastPart_54 : decode c_T_mergeLastPart 54 = .ok (.return_, 1) := by decide +kernel
theorem d_T_noteChange_0 : decode c_T_noteChange 0 = .ok (.aload_n 0, 1) := by decide +kernel
theorem d_T_noteChange_1 : decode c_T_noteChange 1 = .ok (.getfield 9, 3) := by decide +kernel
theorem d_T_noteChange_4 : decode c_T_noteChange 4 = .ok (.ifCond .eq 19, 3) := by decide +kernel
theorem d_T_noteChange_7 : decode c_T_noteChange 7 = .ok (.aload_n 0, 1) := by decide +kernel
theorem d_T_noteChange_8 : decode c_T_noteChange 8 = .ok (.getfield 18, 3) := by decide +kernel
theorem d_T_noteChange_11 : decode c_T_noteChange 11 = .ok (.iload_n 1, 1) := by decide +kernel
theorem d_T_noteChange_12 : decode c_T_noteChange 12 = .ok (.invokestatic 40, 3) := by decide +kernel
theorem d_T_noteChange_15 : decode c_T_noteChange 15 = .ok (.ifCond .eq 8, 3) := by decide +kernel
theorem d_T_noteChange_18 : decode c_T_noteChange 18 = .ok (.aload_n 0, 1) := by decide +kernel
theorem d_T_noteChange_19 : decode c_T_noteChange 19 = .ok (.iconst 1, 1) := by decide +kernel
theorem d_T_noteChange_20 : decode c_T_noteChange 20 = .ok (.putfield 15, 3) := by decide +kernel
theorem d_T_noteChange_23 : decode c_T_noteChange 23 = .ok (.return_, 1) := by decide +kernel
theorem d_T_readCount_0 : decode c_T_readCount 0 = .ok (.aload_n 0, 1) := by decide +kernel
theorem d_T_readCount_1 : decode c_T_readCount 1 = .ok (.getfield 18, 3) := by decide +kernel
theorem d_T_readCount_4 : decode c_T_readCount 4 = .ok (.invokestatic 34, 3) := by decide +kernel
theorem d_T_readCount_7 : decode c_T_readCount 7 = .ok (.ireturn, 1) := by decide +kernel
theorem d_T_writtenCount_0 : decode c_T_writtenCount 0 = .ok (.iconst 0, 1) := by decide +kernel
theorem d_T_writtenCount_1 : decode c_T_writtenCount 1 = .ok (.istore_n 1, 1) := by decide +kernel
theorem d_T_writtenCount_2 : decode c_T_writtenCount 2 = .ok (.iconst 0, 1) := by decide +kernel
theorem d_T_writtenCount_3 : decode c_T_writtenCount 3 = .ok (.istore_n 2, 1) := by decide +kernel
theorem d_T_writtenCount_4 : decode c_T_writtenCount 4 = .ok (.iload_n 2, 1) := by decide +kernel
theorem d_T_writtenCount_5 : decode c_T_writtenCount 5 = .ok (.aload_n 0, 1) := by decide +kernel
theorem d_T_writtenCount_6 : decode c_T_writtenCount 6 = .ok (.getfield 22, 3) := by decide +kernel
theorem d_T_writtenCount_9 : decode c_T_writtenCount 9 = .ok (.if_icmp .ge 18, 3) := by decide +kernel
theorem d_T_writtenCount_12 : decode c_T_writtenCount 12 = .ok (.iload_n 1, 1) := by decide +kernel
theorem d_T_writtenCount_13 : decode c_T_writtenCount 13 = .ok (.aload_n 0, 1) := by decide +kernel
theorem d_T_writtenCount_14 : decode c_T_writtenCount 14 = .ok (.getfield 25, 3) := by decide +kernel
theorem d_T_writtenCount_17 : decode c_T_writtenCount 17 = .ok (.iload_n 2, 1) := by decide +kernel
theorem d_T_writtenCount_18 : decode c_T_writtenCount 18 = .ok (.iaload, 1) := by decide +kernel
theorem d_T_writtenCount_19 : decode c_T_writtenCount 19 = .ok (.ior, 1) := by decide +kernel
theorem d_T_writtenCount_20 : decode c_T_writtenCount 20 = .ok (.istore_n 1, 1) := by decide +kernel
theorem d_T_writtenCount_21 : decode c_T_writtenCount 21 = .ok (.iinc 2 1, 3) := by decide +kernel
theorem d_T_writtenCount_24 : decode c_T_writtenCount 24 = .ok (.goto (-20), 3) := by decide +kernel
theorem d_T_writtenCount_27 : decode c_T_writtenCount 27 = .ok (.iload_n 1, 1) := by decide +kernel
theorem d_T_writtenCount_28 : decode c_T_writtenCount 28 = .ok (.invokestatic 34, 3) := by decide +kernel
theorem d_T_writtenCount_31 : decode c_T_writtenCount 31 = .ok (.ireturn, 1) := by decide +kernel
end
section
/-! What each instruction is: class CommitDesk. -/
theorem d_D_init_0 : decode c_D_init 0 = .ok (.aload_n 0, 1) := by decide +kernel
theorem d_D_init_1 : decode c_D_init 1 = .ok (.invokespecial 1, 3) := by decide +kernel
theorem d_D_init_4 : decode c_D_init 4 = .ok (.aload_n 0, 1) := by decide +kernel
theorem d_D_init_5 : decode c_D_init 5 = .ok (.bipush 32, 2) := by decide +kernel
theorem d_D_init_7 : decode c_D_init 7 = .ok (.newarray .long, 2) := by decide +kernel
theorem d_D_init_9 : decode c_D_init 9 = .ok (.putfield 9, 3) := by decide +kernel
theorem d_D_init_12 : decode c_D_init 12 = .ok (.aload_n 0, 1) := by decide +kernel
theorem d_D_init_13 : decode c_D_init 13 = .ok (.bipush 32, 2) := by decide +kernel
theorem d_D_init_15 : decode c_D_init 15 = .ok (.newarray .int, 2) := by decide +kernel
theorem d_D_init_17 : decode c_D_init 17 = .ok (.putfield 13, 3) := by decide +kernel
theorem d_D_init_20 : decode c_D_init 20 = .ok (.aload_n 0, 1) := by decide +kernel
theorem d_D_init_21 : decode c_D_init 21 = .ok (.bipush 8, 2) := by decide +kernel
theorem d_D_init_23 : decode c_D_init 23 = .ok (.anewarray 17, 3) := by decide +kernel
theorem d_D_init_26 : decode c_D_init 26 = .ok (.putfield 19, 3) := by decide +kernel
theorem d_D_init_29 : decode c_D_init 29 = .ok (.aload_n 0, 1) := by decide +kernel
theorem d_D_init_30 : decode c_D_init 30 = .ok (.iconst 0, 1) := by decide +kernel
theorem d_D_init_31 : decode c_D_init 31 = .ok (.putfield 23, 3) := by decide +kernel
theorem d_D_init_34 : decode c_D_init 34 = .ok (.aload_n 0, 1) := by decide +kernel
theorem d_D_init_35 : decode c_D_init 35 = .ok (.iconst 0, 1) := by decide +kernel
theorem d_D_init_36 : decode c_D_init 36 = .ok (.putfield 27, 3) := by decide +kernel
theorem d_D_init_39 : decode c_D_init 39 = .ok (.iconst 0, 1) := by decide +kernel
theorem d_D_init_40 : decode c_D_init 40 = .ok (.istore_n 1, 1) := by decide +kernel
theorem d_D_init_41 : decode c_D_init 41 = .ok (.iload_n 1, 1) := by decide +kernel
theorem d_D_init_42 : decode c_D_init 42 = .ok (.bipush 8, 2) := by decide +kernel
theorem d_D_init_44 : decode c_D_init 44 = .ok (.if_icmp .ge 22, 3) := by decide +kernel
theorem d_D_init_47 : decode c_D_init 47 = .ok (.aload_n 0, 1) := by decide +kernel
theorem d_D_init_48 : decode c_D_init 48 = .ok (.getfield 19, 3) := by decide +kernel
theorem d_D_init_51 : decode c_D_init 51 = .ok (.iload_n 1, 1) := by decide +kernel
theorem d_D_init_52 : decode c_D_init 52 = .ok (.new 17, 3) := by decide +kernel
theorem d_D_init_55 : decode c_D_init 55 = .ok (.dup, 1) := by decide +kernel
theorem d_D_init_56 : decode c_D_init 56 = .ok (.invokespecial 30, 3) := by decide +kernel
theorem d_D_init_59 : decode c_D_init 59 = .ok (.aastore, 1) := by decide +kernel
theorem d_D_init_60 : decode c_D_init 60 = .ok (.iinc 1 1, 3) := by decide +kernel
theorem d_D_init_63 : decode c_D_init 63 = .ok (.goto (-22), 3) := by decide +kernel
theorem d_D_init_66 : decode c_D_init 66 = .ok (.return_, 1) := by decide +kernel
theorem d_D_begin_0 : decode c_D_begin 0 = .ok (.aload_n 0, 1) := by decide +kernel
theorem d_D_begin_1 : decode c_D_begin 1 = .ok (.iload_n 1, 1) := by decide +kernel
theorem d_D_begin_2 : decode c_D_begin 2 = .ok (.invokevirtual 31, 3) := by decide +kernel
theorem d_D_begin_5 : decode c_D_begin 5 = .ok (.astore_n 2, 1) := by decide +kernel
theorem d_D_begin_6 : decode c_D_begin 6 = .ok (.aload_n 2, 1) := by decide +kernel
theorem d_D_begin_7 : decode c_D_begin 7 = .ok (.invokevirtual 35, 3) := by decide +kernel
theorem d_D_begin_10 : decode c_D_begin 10 = .ok (.ifCond .eq 13, 3) := by decide +kernel
theorem d_D_begin_13 : decode c_D_begin 13 = .ok (.new 39, 3) := by decide +kernel
theorem d_D_begin_16 : decode c_D_begin 16 = .ok (.dup, 1) := by decide +kernel
theorem d_D_begin_17 : decode c_D_begin 17 = .ok (.ldc 41, 2) := by decide +kernel
theorem d_D_begin_19 : decode c_D_begin 19 = .ok (.invokespecial 43, 3) := by decide +kernel
theorem d_D_begin_22 : decode c_D_begin 22 = .ok (.athrow, 1) := by decide +kernel
theorem d_D_begin_23 : decode c_D_begin 23 = .ok (.aload_n 2, 1) := by decide +kernel
theorem d_D_begin_24 : decode c_D_begin 24 = .ok (.invokevirtual 46, 3) := by decide +kernel
theorem d_D_begin_27 : decode c_D_begin 27 = .ok (.return_, 1) := by decide +kernel
theorem d_D_transactionOf_0 : decode c_D_transactionOf 0 = .ok (.iload_n 1, 1) := by decide +kernel
theorem d_D_transactionOf_1 : decode c_D_transactionOf 1 = .ok (.ifCond .lt 9, 3) := by decide +kernel
theorem d_D_transactionOf_4 : decode c_D_transactionOf 4 = .ok (.iload_n 1, 1) := by decide +kernel
theorem d_D_transactionOf_5 : decode c_D_transactionOf 5 = .ok (.bipush 8, 2) := by decide +kernel
theorem d_D_transactionOf_7 : decode c_D_transactionOf 7 = .ok (.if_icmp .lt 13, 3) := by decide +kernel
theorem d_D_transactionOf_10 : decode c_D_transactionOf 10 = .ok (.new 111, 3) := by decide +kernel
theorem d_D_transactionOf_13 : decode c_D_transactionOf 13 = .ok (.dup, 1) := by decide +kernel
theorem d_D_transactionOf_14 : decode c_D_transactionOf 14 = .ok (.ldc 125, 2) := by decide +kernel
theorem d_D_transactionOf_16 : decode c_D_transactionOf 16 = .ok (.invokespecial 115, 3) := by decide +kernel
theorem d_D_transactionOf_19 : decode c_D_transactionOf 19 = .ok (.athrow, 1) := by decide +kernel
theorem d_D_transactionOf_20 : decode c_D_transactionOf 20 = .ok (.aload_n 0, 1) := by decide +kernel
theorem d_D_transactionOf_21 : decode c_D_transactionOf 21 = .ok (.getfield 19, 3) := by decide +kernel
theorem d_D_transactionOf_24 : decode c_D_transactionOf 24 = .ok (.iload_n 1, 1) := by decide +kernel
theorem d_D_transactionOf_25 : decode c_D_transactionOf 25 = .ok (.aaload, 1) := by decide +kernel
theorem d_D_transactionOf_26 : decode c_D_transactionOf 26 = .ok (.areturn, 1) := by decide +kernel
theorem d_D_read_0 : decode c_D_read 0 = .ok (.aload_n 0, 1) := by decide +kernel
theorem d_D_read_1 : decode c_D_read 1 = .ok (.iload_n 1, 1) := by decide +kernel
theorem d_D_read_2 : decode c_D_read 2 = .ok (.iload_n 2, 1) := by decide +kernel
theorem d_D_read_3 : decode c_D_read 3 = .ok (.invokevirtual 49, 3) := by decide +kernel
theorem d_D_read_6 : decode c_D_read 6 = .ok (.astore_n 3, 1) := by decide +kernel
theorem d_D_read_7 : decode c_D_read 7 = .ok (.aload_n 3, 1) := by decide +kernel
theorem d_D_read_8 : decode c_D_read 8 = .ok (.iload_n 2, 1) := by decide +kernel
theorem d_D_read_9 : decode c_D_read 9 = .ok (.invokevirtual 53, 3) := by decide +kernel
theorem d_D_read_12 : decode c_D_read 12 = .ok (.istore 4, 2) := by decide +kernel
theorem d_D_read_14 : decode c_D_read 14 = .ok (.iload 4, 2) := by decide +kernel
theorem d_D_read_16 : decode c_D_read 16 = .ok (.ifCond .lt 11, 3) := by decide +kernel
theorem d_D_read_19 : decode c_D_read 19 = .ok (.aload_n 3, 1) := by decide +kernel
theorem d_D_read_20 : decode c_D_read 20 = .ok (.iload 4, 2) := by decide +kernel
theorem d_D_read_22 : decode c_D_read 22 = .ok (.iload_n 2, 1) := by decide +kernel
theorem d_D_read_23 : decode c_D_read 23 = .ok (.invokevirtual 57, 3) := by decide +kernel
theorem d_D_read_26 : decode c_D_read 26 = .ok (.lreturn, 1) := by decide +kernel
theorem d_D_read_27 : decode c_D_read 27 = .ok (.aload_n 3, 1) := by decide +kernel
theorem d_D_read_28 : decode c_D_read 28 = .ok (.invokevirtual 61, 3) := by decide +kernel
theorem d_D_read_31 : decode c_D_read 31 = .ok (.ifCond .eq 18, 3) := by decide +kernel
theorem d_D_read_34 : decode c_D_read 34 = .ok (.aload_n 0, 1) := by decide +kernel
theorem d_D_read_35 : decode c_D_read 35 = .ok (.aload_n 3, 1) := by decide +kernel
theorem d_D_read_36 : decode c_D_read 36 = .ok (.invokevirtual 64, 3) := by decide +kernel
theorem d_D_read_39 : decode c_D_read 39 = .ok (.new 68, 3) := by decide +kernel
theorem d_D_read_42 : decode c_D_read 42 = .ok (.dup, 1) := by decide +kernel
theorem d_D_read_43 : decode c_D_read 43 = .ok (.ldc 70, 2) := by decide +kernel
theorem d_D_read_45 : decode c_D_read 45 = .ok (.invokespecial 72, 3) := by decide +kernel
theorem d_D_read_48 : decode c_D_read 48 = .ok (.athrow, 1) := by decide +kernel
theorem d_D_read_49 : decode c_D_read 49 = .ok (.aload_n 3, 1) := by decide +kernel
theorem d_D_read_50 : decode c_D_read 50 = .ok (.iload_n 2, 1) := by decide +kernel
theorem d_D_read_51 : decode c_D_read 51 = .ok (.invokevirtual 73, 3) := by decide +kernel
theorem d_D_read_54 : decode c_D_read 54 = .ok (.aload_n 0, 1) := by decide +kernel
theorem d_D_read_55 : decode c_D_read 55 = .ok (.getfield 9, 3) := by decide +kernel
theorem d_D_read_58 : decode c_D_read 58 = .ok (.iload_n 2, 1) := by decide +kernel
theorem d_D_read_59 : decode c_D_read 59 = .ok (.laload, 1) := by decide +kernel
theorem d_D_read_60 : decode c_D_read 60 = .ok (.lreturn, 1) := by decide +kernel
theorem d_D_openTransactionAt_0 : decode c_D_openTransactionAt 0 = .ok (.aload_n 0, 1) := by decide +kernel
theorem d_D_openTransactionAt_1 : decode c_D_openTransactionAt 1 = .ok (.iload_n 1, 1) := by decide +kernel
theorem d_D_openTransactionAt_2 : decode c_D_openTransactionAt 2 = .ok (.invokevirtual 31, 3) := by decide +kernel
theorem d_D_openTransactionAt_5 : decode c_D_openTransactionAt 5 = .ok (.pop, 1) := by decide +kernel
theorem d_D_openTransactionAt_6 : decode c_D_openTransactionAt 6 = .ok (.aload_n 0, 1) := by decide +kernel
theorem d_D_openTransactionAt_7 : decode c_D_openTransactionAt 7 = .ok (.iload_n 2, 1) := by decide +kernel
theorem d_D_openTransactionAt_8 : decode c_D_openTransactionAt 8 = .ok (.invokevirtual 108, 3) := by decide +kernel
theorem d_D_openTransactionAt_11 : decode c_D_openTransactionAt 11 = .ok (.aload_n 0, 1) := by decide +kernel
theorem d_D_openTransactionAt_12 : decode c_D_openTransactionAt 12 = .ok (.iload_n 1, 1) := by decide +kernel
theorem d_D_openTransactionAt_13 : decode c_D_openTransactionAt 13 = .ok (.invokevirtual 81, 3) := by decide +kernel
theorem d_D_openTransactionAt_16 : decode c_D_openTransactionAt 16 = .ok (.areturn, 1) := by decide +kernel
theorem d_D_requireCell_0 : decode c_D_requireCell 0 = .ok (.iload_n 1, 1) := by decide +kernel
theorem d_D_requireCell_1 : decode c_D_requireCell 1 = .ok (.ifCond .lt 9, 3) := by decide +kernel
theorem d_D_requireCell_4 : decode c_D_requireCell 4 = .ok (.iload_n 1, 1) := by decide +kernel
theorem d_D_requireCell_5 : decode c_D_requireCell 5 = .ok (.bipush 32, 2) := by decide +kernel
theorem d_D_requireCell_7 : decode c_D_requireCell 7 = .ok (.if_icmp .lt 13, 3) := by decide +kernel
theorem d_D_requireCell_10 : decode c_D_requireCell 10 = .ok (.new 127, 3) := by decide +kernel
theorem d_D_requireCell_13 : decode c_D_requireCell 13 = .ok (.dup, 1) := by decide +kernel
theorem d_D_requireCell_14 : decode c_D_requireCell 14 = .ok (.ldc 129, 2) := by decide +kernel
theorem d_D_requireCell_16 : decode c_D_requireCell 16 = .ok (.invokespecial 131, 3) := by decide +kernel
theorem d_D_requireCell_19 : decode c_D_requireCell 19 = .ok (.athrow, 1) := by decide +kernel
theorem d_D_requireCell_20 : decode c_D_requireCell 20 = .ok (.return_, 1) := by decide +kernel
theorem d_D_openTransactionOf_0 : decode c_D_openTransactionOf 0 = .ok (.aload_n 0, 1) := by decide +kernel
theorem d_D_openTransactionOf_1 : decode c_D_openTransactionOf 1 = .ok (.iload_n 1, 1) := by decide +kernel
theorem d_D_openTransactionOf_2 : decode c_D_openTransactionOf 2 = .ok (.invokevirtual 31, 3) := by decide +kernel
theorem d_D_openTransactionOf_5 : decode c_D_openTransactionOf 5 = .ok (.astore_n 2, 1) := by decide +kernel
theorem d_D_openTransactionOf_6 : decode c_D_openTransactionOf 6 = .ok (.aload_n 2, 1) := by decide +kernel
theorem d_D_openTransactionOf_7 : decode c_D_openTransactionOf 7 = .ok (.invokevirtual 35, 3) := by decide +kernel
theorem d_D_openTransactionOf_10 : decode c_D_openTransactionOf 10 = .ok (.ifCond .ne 13, 3) := by decide +kernel
theorem d_D_openTransactionOf_13 : decode c_D_openTransactionOf 13 = .ok (.new 39, 3) := by decide +kernel
theorem d_D_openTransactionOf_16 : decode c_D_openTransactionOf 16 = .ok (.dup, 1) := by decide +kernel
theorem d_D_openTransactionOf_17 : decode c_D_openTransactionOf 17 = .ok (.ldc 132, 2) := by decide +kernel
theorem d_D_openTransactionOf_19 : decode c_D_openTransactionOf 19 = .ok (.invokespecial 43, 3) := by decide +kernel
theorem d_D_openTransactionOf_22 : decode c_D_openTransactionOf 22 = .ok (.athrow, 1) := by decide +kernel
theorem d_D_openTransactionOf_23 : decode c_D_openTransactionOf 23 = .ok (.aload_n 2, 1) := by decide +kernel
theorem d_D_openTransactionOf_24 : decode c_D_openTransactionOf 24 = .ok (.areturn, 1) := by decide +kernel
theorem d_D_endStale_0 : decode c_D_endStale 0 = .ok (.aload_n 1, 1) := by decide +kernel
theorem d_D_endStale_1 : decode c_D_endStale 1 = .ok (.invokevirtual 102, 3) := by decide +kernel
theorem d_D_endStale_4 : decode c_D_endStale 4 = .ok (.aload_n 0, 1) := by decide +kernel
theorem d_D_endStale_5 : decode c_D_endStale 5 = .ok (.dup, 1) := by decide +kernel
theorem d_D_endStale_6 : decode c_D_endStale 6 = .ok (.getfield 27, 3) := by decide +kernel
theorem d_D_endStale_9 : decode c_D_endStale 9 = .ok (.iconst 1, 1) := by decide +kernel
theorem d_D_endStale_10 : decode c_D_endStale 10 = .ok (.iadd, 1) := by decide +kernel
theorem d_D_endStale_11 : decode c_D_endStale 11 = .ok (.putfield 27, 3) := by decide +kernel
theorem d_D_endStale_14 : decode c_D_endStale 14 = .ok (.return_, 1) := by decide +kernel
theorem d_D_write_0 : decode c_D_write 0 = .ok (.aload_n 0, 1) := by decide +kernel
theorem d_D_write_1 : decode c_D_write 1 = .ok (.iload_n 1, 1) := by decide +kernel
theorem d_D_write_2 : decode c_D_write 2 = .ok (.iload_n 2, 1) := by decide +kernel
theorem d_D_write_3 : decode c_D_write 3 = .ok (.invokevirtual 49, 3) := by decide +kernel
theorem d_D_write_6 : decode c_D_write 6 = .ok (.iload_n 2, 1) := by decide +kernel
theorem d_D_write_7 : decode c_D_write 7 = .ok (.lload_n 3, 1) := by decide +kernel
theorem d_D_write_8 : decode c_D_write 8 = .ok (.invokevirtual 77, 3) := by decide +kernel
theorem d_D_write_11 : decode c_D_write 11 = .ok (.return_, 1) := by decide +kernel
theorem d_D_save_0 : decode c_D_save 0 = .ok (.aload_n 0, 1) := by decide +kernel
theorem d_D_save_1 : decode c_D_save 1 = .ok (.iload_n 1, 1) := by decide +kernel
theorem d_D_save_2 : decode c_D_save 2 = .ok (.invokevirtual 81, 3) := by decide +kernel
theorem d_D_save_5 : decode c_D_save 5 = .ok (.astore_n 2, 1) := by decide +kernel
theorem d_D_save_6 : decode c_D_save 6 = .ok (.aload_n 2, 1) := by decide +kernel
theorem d_D_save_7 : decode c_D_save 7 = .ok (.invokevirtual 84, 3) := by decide +kernel
theorem d_D_save_10 : decode c_D_save 10 = .ok (.iconst 5, 1) := by decide +kernel
theorem d_D_save_11 : decode c_D_save 11 = .ok (.if_icmp .lt 13, 3) := by decide +kernel
theorem d_D_save_14 : decode c_D_save 14 = .ok (.new 68, 3) := by decide +kernel
theorem d_D_save_17 : decode c_D_save 17 = .ok (.dup, 1) := by decide +kernel
theorem d_D_save_18 : decode c_D_save 18 = .ok (.ldc 88, 2) := by decide +kernel
theorem d_D_save_20 : decode c_D_save 20 = .ok (.invokespecial 72, 3) := by decide +kernel
theorem d_D_save_23 : decode c_D_save 23 = .ok (.athrow, 1) := by decide +kernel
theorem d_D_save_24 : decode c_D_save 24 = .ok (.aload_n 2, 1) := by decide +kernel
theorem d_D_save_25 : decode c_D_save 25 = .ok (.invokevirtual 90, 3) := by decide +kernel
theorem d_D_save_28 : decode c_D_save 28 = .ok (.aload_n 2, 1) := by decide +kernel
theorem d_D_save_29 : decode c_D_save 29 = .ok (.invokevirtual 84, 3) := by decide +kernel
theorem d_D_save_32 : decode c_D_save 32 = .ok (.ireturn, 1) := by decide +kernel
theorem d_D_back_0 : decode c_D_back 0 = .ok (.aload_n 0, 1) := by decide +kernel
theorem d_D_back_1 : decode c_D_back 1 = .ok (.iload_n 1, 1) := by decide +kernel
theorem d_D_back_2 : decode c_D_back 2 = .ok (.invokevirtual 93, 3) := by decide +kernel
theorem d_D_back_5 : decode c_D_back 5 = .ok (.invokevirtual 96, 3) := by decide +kernel
theorem d_D_back_8 : decode c_D_back 8 = .ok (.return_, 1) := by decide +kernel
theorem d_D_transactionWithSeveralParts_0 : decode c_D_transactionWithSeveralParts 0 = .ok (.aload_n 0, 1) := by decide +kernel
theorem d_D_transactionWithSeveralParts_1 : decode c_D_transactionWithSeveralParts 1 = .ok (.iload_n 1, 1) := by decide +kernel
theorem d_D_transactionWithSeveralParts_2 : decode c_D_transactionWithSeveralParts 2 = .ok (.invokevirtual 81, 3) := by decide +kernel
theorem d_D_transactionWithSeveralParts_5 : decode c_D_transactionWithSeveralParts 5 = .ok (.astore_n 2, 1) := by decide +kernel
theorem d_D_transactionWithSeveralParts_6 : decode c_D_transactionWithSeveralParts 6 = .ok (.aload_n 2, 1) := by decide +kernel
theorem d_D_transactionWithSeveralParts_7 : decode c_D_transactionWithSeveralParts 7 = .ok (.invokevirtual 84, 3) := by decide +kernel
theorem d_D_transactionWithSeveralParts_10 : decode c_D_transactionWithSeveralParts 10 = .ok (.iconst 1, 1) := by decide +kernel
theorem d_D_transactionWithSeveralParts_11 : decode c_D_transactionWithSeveralParts 11 = .ok (.if_icmp .gt 13, 3) := by decide +kernel
theorem d_D_transactionWithSeveralParts_14 : decode c_D_transactionWithSeveralParts 14 = .ok (.new 68, 3) := by decide +kernel
theorem d_D_transactionWithSeveralParts_17 : decode c_D_transactionWithSeveralParts 17 = .ok (.dup, 1) := by decide +kernel
theorem d_D_transactionWithSeveralParts_18 : decode c_D_transactionWithSeveralParts 18 = .ok (.ldc 134, 2) := by decide +kernel
theorem d_D_transactionWithSeveralParts_20 : decode c_D_transactionWithSeveralParts 20 = .ok (.invokespecial 72, 3) := by decide +kernel
theorem d_D_transactionWithSeveralParts_23 : decode c_D_transactionWithSeveralParts 23 = .ok (.athrow, 1) := by decide +kernel
theorem d_D_transactionWithSeveralParts_24 : decode c_D_transactionWithSeveralParts 24 = .ok (.aload_n 2, 1) := by decide +kernel
theorem d_D_transactionWithSeveralParts_25 : decode c_D_transactionWithSeveralParts 25 = .ok (.areturn, 1) := by decide +kernel
theorem d_D_keep_0 : decode c_D_keep 0 = .ok (.aload_n 0, 1) := by decide +kernel
theorem d_D_keep_1 : decode c_D_keep 1 = .ok (.iload_n 1, 1) := by decide +kernel
theorem d_D_keep_2 : decode c_D_keep 2 = .ok (.invokevirtual 93, 3) := by decide +kernel
theorem d_D_keep_5 : decode c_D_keep 5 = .ok (.invokevirtual 99, 3) := by decide +kernel
theorem d_D_keep_8 : decode c_D_keep 8 = .ok (.return_, 1) := by decide +kernel
theorem d_D_done_0 : decode c_D_done 0 = .ok (.aload_n 0, 1) := by decide +kernel
theorem d_D_done_1 : decode c_D_done 1 = .ok (.iload_n 1, 1) := by decide +kernel
theorem d_D_done_2 : decode c_D_done 2 = .ok (.invokevirtual 81, 3) := by decide +kernel
theorem d_D_done_5 : decode c_D_done 5 = .ok (.astore_n 2, 1) := by decide +kernel
theorem d_D_done_6 : decode c_D_done 6 = .ok (.aload_n 2, 1) := by decide +kernel
theorem d_D_done_7 : decode c_D_done 7 = .ok (.invokevirtual 61, 3) := by decide +kernel
theorem d_D_done_10 : decode c_D_done 10 = .ok (.ifCond .eq 10, 3) := by decide +kernel
theorem d_D_done_13 : decode c_D_done 13 = .ok (.aload_n 0, 1) := by decide +kernel
theorem d_D_done_14 : decode c_D_done 14 = .ok (.aload_n 2, 1) := by decide +kernel
theorem d_D_done_15 : decode c_D_done 15 = .ok (.invokevirtual 64, 3) := by decide +kernel
theorem d_D_done_18 : decode c_D_done 18 = .ok (.iconst 0, 1) := by decide +kernel
theorem d_D_done_19 : decode c_D_done 19 = .ok (.ireturn, 1) := by decide +kernel
theorem d_D_done_20 : decode c_D_done 20 = .ok (.aload_n 2, 1) := by decide +kernel
theorem d_D_done_21 : decode c_D_done 21 = .ok (.invokevirtual 102, 3) := by decide +kernel
theorem d_D_done_24 : decode c_D_done 24 = .ok (.iconst 0, 1) := by decide +kernel
theorem d_D_done_25 : decode c_D_done 25 = .ok (.istore_n 3, 1) := by decide +kernel
theorem d_D_done_26 : decode c_D_done 26 = .ok (.iload_n 3, 1) := by decide +kernel
theorem d_D_done_27 : decode c_D_done 27 = .ok (.bipush 32, 2) := by decide +kernel
theorem d_D_done_29 : decode c_D_done 29 = .ok (.if_icmp .ge 33, 3) := by decide +kernel
theorem d_D_done_32 : decode c_D_done 32 = .ok (.aload_n 2, 1) := by decide +kernel
theorem d_D_done_33 : decode c_D_done 33 = .ok (.iload_n 3, 1) := by decide +kernel
theorem d_D_done_34 : decode c_D_done 34 = .ok (.invokevirtual 53, 3) := by decide +kernel
theorem d_D_done_37 : decode c_D_done 37 = .ok (.istore 4, 2) := by decide +kernel
theorem d_D_done_39 : decode c_D_done 39 = .ok (.iload 4, 2) := by decide +kernel
theorem d_D_done_41 : decode c_D_done 41 = .ok (.ifCond .lt 15, 3) := by decide +kernel
theorem d_D_done_44 : decode c_D_done 44 = .ok (.aload_n 0, 1) := by decide +kernel
theorem d_D_done_45 : decode c_D_done 45 = .ok (.iload_n 3, 1) := by decide +kernel
theorem d_D_done_46 : decode c_D_done 46 = .ok (.aload_n 2, 1) := by decide +kernel
theorem d_D_done_47 : decode c_D_done 47 = .ok (.iload 4, 2) := by decide +kernel
theorem d_D_done_49 : decode c_D_done 49 = .ok (.iload_n 3, 1) := by decide +kernel
theorem d_D_done_50 : decode c_D_done 50 = .ok (.invokevirtual 57, 3) := by decide +kernel
theorem d_D_done_53 : decode c_D_done 53 = .ok (.invokevirtual 105, 3) := by decide +kernel
theorem d_D_done_56 : decode c_D_done 56 = .ok (.iinc 3 1, 3) := by decide +kernel
theorem d_D_done_59 : decode c_D_done 59 = .ok (.goto (-33), 3) := by decide +kernel
theorem d_D_done_62 : decode c_D_done 62 = .ok (.aload_n 0, 1) := by decide +kernel
theorem d_D_done_63 : decode c_D_done 63 = .ok (.dup, 1) := by decide +kernel
theorem d_D_done_64 : decode c_D_done 64 = .ok (.getfield 23, 3) := by decide +kernel
theorem d_D_done_67 : decode c_D_done 67 = .ok (.iconst 1, 1) := by decide +kernel
theorem d_D_done_68 : decode c_D_done 68 = .ok (.iadd, 1) := by decide +kernel
theorem d_D_done_69 : decode c_D_done 69 = .ok (.putfield 23, 3) := by decide +kernel
theorem d_D_done_72 : decode c_D_done 72 = .ok (.iconst 1, 1) := by decide +kernel
theorem d_D_done_73 : decode c_D_done 73 = .ok (.ireturn, 1) := by decide +kernel
theorem d_D_change_0 : decode c_D_change 0 = .ok (.aload_n 0, 1) := by decide +kernel
theorem d_D_change_1 : decode c_D_change 1 = .ok (.getfield 9, 3) := by decide +kernel
theorem d_D_change_4 : decode c_D_change 4 = .ok (.iload_n 1, 1) := by decide +kernel
theorem d_D_change_5 : decode c_D_change 5 = .ok (.lload_n 2, 1) := by decide +kernel
theorem d_D_change_6 : decode c_D_change 6 = .ok (.lastore, 1) := by decide +kernel
theorem d_D_change_7 : decode c_D_change 7 = .ok (.aload_n 0, 1) := by decide +kernel
theorem d_D_change_8 : decode c_D_change 8 = .ok (.getfield 13, 3) := by decide +kernel
theorem d_D_change_11 : decode c_D_change 11 = .ok (.iload_n 1, 1) := by decide +kernel
theorem d_D_change_12 : decode c_D_change 12 = .ok (.dup2, 1) := by decide +kernel
theorem d_D_change_13 : decode c_D_change 13 = .ok (.iaload, 1) := by decide +kernel
theorem d_D_change_14 : decode c_D_change 14 = .ok (.iconst 1, 1) := by decide +kernel
theorem d_D_change_15 : decode c_D_change 15 = .ok (.iadd, 1) := by decide +kernel
theorem d_D_change_16 : decode c_D_change 16 = .ok (.iastore, 1) := by decide +kernel
theorem d_D_change_17 : decode c_D_change 17 = .ok (.iconst 0, 1) := by decide +kernel
theorem d_D_change_18 : decode c_D_change 18 = .ok (.istore 4, 2) := by decide +kernel
theorem d_D_change_20 : decode c_D_change 20 = .ok (.iload 4, 2) := by decide +kernel
theorem d_D_change_22 : decode c_D_change 22 = .ok (.bipush 8, 2) := by decide +kernel
theorem d_D_change_24 : decode c_D_change 24 = .ok (.if_icmp .ge 20, 3) := by decide +kernel
theorem d_D_change_27 : decode c_D_change 27 = .ok (.aload_n 0, 1) := by decide +kernel
theorem d_D_change_28 : decode c_D_change 28 = .ok (.getfield 19, 3) := by decide +kernel
theorem d_D_change_31 : decode c_D_change 31 = .ok (.iload 4, 2) := by decide +kernel
theorem d_D_change_33 : decode c_D_change 33 = .ok (.aaload, 1) := by decide +kernel
theorem d_D_change_34 : decode c_D_change 34 = .ok (.iload_n 1, 1) := by decide +kernel
theorem d_D_change_35 : decode c_D_change 35 = .ok (.invokevirtual 136, 3) := by decide +kernel
theorem d_D_change_38 : decode c_D_change 38 = .ok (.iinc 4 1, 3) := by decide +kernel
theorem d_D_change_41 : decode c_D_change 41 = .ok (.goto (-21), 3) := by decide +kernel
theorem d_D_change_44 : decode c_D_change 44 = .ok (.return_, 1) := by decide +kernel
theorem d_D_leave_0 : decode c_D_leave 0 = .ok (.aload_n 0, 1) := by decide +kernel
theorem d_D_leave_1 : decode c_D_leave 1 = .ok (.iload_n 1, 1) := by decide +kernel
theorem d_D_leave_2 : decode c_D_leave 2 = .ok (.invokevirtual 81, 3) := by decide +kernel
theorem d_D_leave_5 : decode c_D_leave 5 = .ok (.invokevirtual 102, 3) := by decide +kernel
theorem d_D_leave_8 : decode c_D_leave 8 = .ok (.return_, 1) := by decide +kernel
theorem d_D_set_0 : decode c_D_set 0 = .ok (.aload_n 0, 1) := by decide +kernel
theorem d_D_set_1 : decode c_D_set 1 = .ok (.iload_n 1, 1) := by decide +kernel
theorem d_D_set_2 : decode c_D_set 2 = .ok (.invokevirtual 108, 3) := by decide +kernel
theorem d_D_set_5 : decode c_D_set 5 = .ok (.aload_n 0, 1) := by decide +kernel
theorem d_D_set_6 : decode c_D_set 6 = .ok (.iload_n 1, 1) := by decide +kernel
theorem d_D_set_7 : decode c_D_set 7 = .ok (.lload_n 2, 1) := by decide +kernel
theorem d_D_set_8 : decode c_D_set 8 = .ok (.invokevirtual 105, 3) := by decide +kernel
theorem d_D_set_11 : decode c_D_set 11 = .ok (.return_, 1) := by decide +kernel
theorem d_D_cell_0 : decode c_D_cell 0 = .ok (.aload_n 0, 1) := by decide +kernel
theorem d_D_cell_1 : decode c_D_cell 1 = .ok (.iload_n 1, 1) := by decide +kernel
theorem d_D_cell_2 : decode c_D_cell 2 = .ok (.invokevirtual 108, 3) := by decide +kernel
theorem d_D_cell_5 : decode c_D_cell 5 = .ok (.aload_n 0, 1) := by decide +kernel
theorem d_D_cell_6 : decode c_D_cell 6 = .ok (.getfield 9, 3) := by decide +kernel
theorem d_D_cell_9 : decode c_D_cell 9 = .ok (.iload_n 1, 1) := by decide +kernel
theorem d_D_cell_10 : decode c_D_cell 10 = .ok (.laload, 1) := by decide +kernel
theorem d_D_cell_11 : decode c_D_cell 11 = .ok (.lreturn, 1) := by decide +kernel
theorem d_D_changed_0 : decode c_D_changed 0 = .ok (.aload_n 0, 1) := by decide +kernel
theorem d_D_changed_1 : decode c_D_changed 1 = .ok (.iload_n 1, 1) := by decide +kernel
theorem d_D_changed_2 : decode c_D_changed 2 = .ok (.invokevirtual 108, 3) := by decide +kernel
theorem d_D_changed_5 : decode c_D_changed 5 = .ok (.aload_n 0, 1) := by decide +kernel
theorem d_D_changed_6 : decode c_D_changed 6 = .ok (.getfield 13, 3) := by decide +kernel
theorem d_D_changed_9 : decode c_D_changed 9 = .ok (.iload_n 1, 1) := by decide +kernel
theorem d_D_changed_10 : decode c_D_changed 10 = .ok (.iaload, 1) := by decide +kernel
theorem d_D_changed_11 : decode c_D_changed 11 = .ok (.ireturn, 1) := by decide +kernel
theorem d_D_count_0 : decode c_D_count 0 = .ok (.iload_n 2, 1) := by decide +kernel
theorem d_D_count_1 : decode c_D_count 1 = .ok (.ifCond .lt 8, 3) := by decide +kernel
theorem d_D_count_4 : decode c_D_count 4 = .ok (.iload_n 2, 1) := by decide +kernel
theorem d_D_count_5 : decode c_D_count 5 = .ok (.iconst 3, 1) := by decide +kernel
theorem d_D_count_6 : decode c_D_count 6 = .ok (.if_icmp .le 13, 3) := by decide +kernel
theorem d_D_count_9 : decode c_D_count 9 = .ok (.new 111, 3) := by decide +kernel
theorem d_D_count_12 : decode c_D_count 12 = .ok (.dup, 1) := by decide +kernel
theorem d_D_count_13 : decode c_D_count 13 = .ok (.ldc 113, 2) := by decide +kernel
theorem d_D_count_15 : decode c_D_count 15 = .ok (.invokespecial 115, 3) := by decide +kernel
theorem d_D_count_18 : decode c_D_count 18 = .ok (.athrow, 1) := by decide +kernel
theorem d_D_count_19 : decode c_D_count 19 = .ok (.aload_n 0, 1) := by decide +kernel
theorem d_D_count_20 : decode c_D_count 20 = .ok (.iload_n 1, 1) := by decide +kernel
theorem d_D_count_21 : decode c_D_count 21 = .ok (.invokevirtual 81, 3) := by decide +kernel
theorem d_D_count_24 : decode c_D_count 24 = .ok (.astore_n 3, 1) := by decide +kernel
theorem d_D_count_25 : decode c_D_count 25 = .ok (.iload_n 2, 1) := by decide +kernel
theorem d_D_count_26 : decode c_D_count 26 = .ok (.tableswitch 41 0 2 #[26, 31, 36], 26) := by decide +kernel
theorem d_D_count_52 : decode c_D_count 52 = .ok (.aload_n 3, 1) := by decide +kernel
theorem d_D_count_53 : decode c_D_count 53 = .ok (.invokevirtual 116, 3) := by decide +kernel
theorem d_D_count_56 : decode c_D_count 56 = .ok (.ireturn, 1) := by decide +kernel
theorem d_D_count_57 : decode c_D_count 57 = .ok (.aload_n 3, 1) := by decide +kernel
theorem d_D_count_58 : decode c_D_count 58 = .ok (.invokevirtual 119, 3) := by decide +kernel
theorem d_D_count_61 : decode c_D_count 61 = .ok (.ireturn, 1) := by decide +kernel
theorem d_D_count_62 : decode c_D_count 62 = .ok (.aload_n 3, 1) := by decide +kernel
theorem d_D_count_63 : decode c_D_count 63 = .ok (.invokevirtual 84, 3) := by decide +kernel
theorem d_D_count_66 : decode c_D_count 66 = .ok (.ireturn, 1) := by decide +kernel
theorem d_D_count_67 : decode c_D_count 67 = .ok (.aload_n 3, 1) := by decide +kernel
theorem d_D_count_68 : decode c_D_count 68 = .ok (.invokevirtual 61, 3) := by decide +kernel
theorem d_D_count_71 : decode c_D_count 71 = .ok (.ifCond .eq 7, 3) := by decide +kernel
theorem d_D_count_74 : decode c_D_count 74 = .ok (.iconst 1, 1) := by decide +kernel
theorem d_D_count_75 : decode c_D_count 75 = .ok (.goto 4, 3) := by decide +kernel
theorem d_D_count_78 : decode c_D_count 78 = .ok (.iconst 0, 1) := by decide +kernel
theorem d_D_count_79 : decode c_D_count 79 = .ok (.ireturn, 1) := by decide +kernel
theorem d_D_all_0 : decode c_D_all 0 = .ok (.iload_n 1, 1) := by decide +kernel
theorem d_D_all_1 : decode c_D_all 1 = .ok (.tableswitch 42 0 2 #[27, 32, 37], 27) := by decide +kernel
theorem d_D_all_28 : decode c_D_all 28 = .ok (.aload_n 0, 1) := by decide +kernel
theorem d_D_all_29 : decode c_D_all 29 = .ok (.invokevirtual 122, 3) := by decide +kernel
theorem d_D_all_32 : decode c_D_all 32 = .ok (.ireturn, 1) := by decide +kernel
theorem d_D_all_33 : decode c_D_all 33 = .ok (.aload_n 0, 1) := by decide +kernel
theorem d_D_all_34 : decode c_D_all 34 = .ok (.getfield 23, 3) := by decide +kernel
theorem d_D_all_37 : decode c_D_all 37 = .ok (.ireturn, 1) := by decide +kernel
theorem d_D_all_38 : decode c_D_all 38 = .ok (.aload_n 0, 1) := by decide +kernel
theorem d_D_all_39 : decode c_D_all 39 = .ok (.getfield 27, 3) := by decide +kernel
theorem d_D_all_42 : decode c_D_all 42 = .ok (.ireturn, 1) := by decide +kernel
theorem d_D_all_43 : decode c_D_all 43 = .ok (.new 111, 3) := by decide +kernel
theorem d_D_all_46 : decode c_D_all 46 = .ok (.dup, 1) := by decide +kernel
theorem d_D_all_47 : decode c_D_all 47 = .ok (.ldc 113, 2) := by decide +kernel
theorem d_D_all_49 : decode c_D_all 49 = .ok (.invokespecial 115, 3) := by decide +kernel
theorem d_D_all_52 : decode c_D_all 52 = .ok (.athrow, 1) := by decide +kernel
theorem d_D_openTotal_0 : decode c_D_openTotal 0 = .ok (.iconst 0, 1) := by decide +kernel
theorem d_D_openTotal_1 : decode c_D_openTotal 1 = .ok (.istore_n 1, 1) := by decide +kernel
theorem d_D_openTotal_2 : decode c_D_openTotal 2 = .ok (.iconst 0, 1) := by decide +kernel
theorem d_D_openTotal_3 : decode c_D_openTotal 3 = .ok (.istore_n 2, 1) := by decide +kernel
theorem d_D_openTotal_4 : decode c_D_openTotal 4 = .ok (.iload_n 2, 1) := by decide +kernel
theorem d_D_openTotal_5 : decode c_D_openTotal 5 = .ok (.bipush 8, 2) := by decide +kernel
theorem d_D_openTotal_7 : decode c_D_openTotal 7 = .ok (.if_icmp .ge 24, 3) := by decide +kernel
theorem d_D_openTotal_10 : decode c_D_openTotal 10 = .ok (.aload_n 0, 1) := by decide +kernel
theorem d_D_openTotal_11 : decode c_D_openTotal 11 = .ok (.getfield 19, 3) := by decide +kernel
theorem d_D_openTotal_14 : decode c_D_openTotal 14 = .ok (.iload_n 2, 1) := by decide +kernel
theorem d_D_openTotal_15 : decode c_D_openTotal 15 = .ok (.aaload, 1) := by decide +kernel
theorem d_D_openTotal_16 : decode c_D_openTotal 16 = .ok (.invokevirtual 35, 3) := by decide +kernel
theorem d_D_openTotal_19 : decode c_D_openTotal 19 = .ok (.ifCond .eq 6, 3) := by decide +kernel
theorem d_D_openTotal_22 : decode c_D_openTotal 22 = .ok (.iinc 1 1, 3) := by decide +kernel
theorem d_D_openTotal_25 : decode c_D_openTotal 25 = .ok (.iinc 2 1, 3) := by decide +kernel
theorem d_D_openTotal_28 : decode c_D_openTotal 28 = .ok (.goto (-24), 3) := by decide +kernel
theorem d_D_openTotal_31 : decode c_D_openTotal 31 = .ok (.iload_n 1, 1) := by decide +kernel
theorem d_D_openTotal_32 : decode c_D_openTotal 32 = .ok (.ireturn, 1) := by decide +kernel
end
section
/-! What each instruction is: class CommitDeskModel. -/
theorem d_M_init_0 : decode c_M_init 0 = .ok (.aload_n 0, 1) := by decide +kernel
theorem d_M_init_1 : decode c_M_init 1 = .ok (.invokespecial 1, 3) := by decide +kernel
theorem d_M_init_4 : decode c_M_init 4 = .ok (.aload_n 0, 1) := by decide +kernel
theorem d_M_init_5 : decode c_M_init 5 = .ok (.bipush 32, 2) := by decide +kernel
theorem d_M_init_7 : decode c_M_init 7 = .ok (.newarray .long, 2) := by decide +kernel
theorem d_M_init_9 : decode c_M_init 9 = .ok (.putfield 9, 3) := by decide +kernel
theorem d_M_init_12 : decode c_M_init 12 = .ok (.aload_n 0, 1) := by decide +kernel
theorem d_M_init_13 : decode c_M_init 13 = .ok (.sipush 1280, 3) := by decide +kernel
theorem d_M_init_16 : decode c_M_init 16 = .ok (.newarray .long, 2) := by decide +kernel
theorem d_M_init_18 : decode c_M_init 18 = .ok (.putfield 13, 3) := by decide +kernel
theorem d_M_init_21 : decode c_M_init 21 = .ok (.aload_n 0, 1) := by decide +kernel
theorem d_M_init_22 : decode c_M_init 22 = .ok (.bipush 32, 2) := by decide +kernel
theorem d_M_init_24 : decode c_M_init 24 = .ok (.newarray .int, 2) := by decide +kernel
theorem d_M_init_26 : decode c_M_init 26 = .ok (.putfield 16, 3) := by decide +kernel
theorem d_M_init_29 : decode c_M_init 29 = .ok (.aload_n 0, 1) := by decide +kernel
theorem d_M_init_30 : decode c_M_init 30 = .ok (.bipush 8, 2) := by decide +kernel
theorem d_M_init_32 : decode c_M_init 32 = .ok (.newarray .int, 2) := by decide +kernel
theorem d_M_init_34 : decode c_M_init 34 = .ok (.putfield 20, 3) := by decide +kernel
theorem d_M_init_37 : decode c_M_init 37 = .ok (.aload_n 0, 1) := by decide +kernel
theorem d_M_init_38 : decode c_M_init 38 = .ok (.sipush 256, 3) := by decide +kernel
theorem d_M_init_41 : decode c_M_init 41 = .ok (.newarray .int, 2) := by decide +kernel
theorem d_M_init_43 : decode c_M_init 43 = .ok (.putfield 23, 3) := by decide +kernel
theorem d_M_init_46 : decode c_M_init 46 = .ok (.aload_n 0, 1) := by decide +kernel
theorem d_M_init_47 : decode c_M_init 47 = .ok (.sipush 1280, 3) := by decide +kernel
theorem d_M_init_50 : decode c_M_init 50 = .ok (.newarray .boolean, 2) := by decide +kernel
theorem d_M_init_52 : decode c_M_init 52 = .ok (.putfield 26, 3) := by decide +kernel
theorem d_M_init_55 : decode c_M_init 55 = .ok (.aload_n 0, 1) := by decide +kernel
theorem d_M_init_56 : decode c_M_init 56 = .ok (.sipush 256, 3) := by decide +kernel
theorem d_M_init_59 : decode c_M_init 59 = .ok (.newarray .boolean, 2) := by decide +kernel
theorem d_M_init_61 : decode c_M_init 61 = .ok (.putfield 30, 3) := by decide +kernel
theorem d_M_init_64 : decode c_M_init 64 = .ok (.aload_n 0, 1) := by decide +kernel
theorem d_M_init_65 : decode c_M_init 65 = .ok (.bipush 8, 2) := by decide +kernel
theorem d_M_init_67 : decode c_M_init 67 = .ok (.newarray .boolean, 2) := by decide +kernel
theorem d_M_init_69 : decode c_M_init 69 = .ok (.putfield 33, 3) := by decide +kernel
theorem d_M_init_72 : decode c_M_init 72 = .ok (.return_, 1) := by decide +kernel
theorem d_M_thrown_0 : decode c_M_thrown 0 = .ok (.aload_n 0, 1) := by decide +kernel
theorem d_M_thrown_1 : decode c_M_thrown 1 = .ok (.getfield 36, 3) := by decide +kernel
theorem d_M_thrown_4 : decode c_M_thrown 4 = .ok (.ireturn, 1) := by decide +kernel
theorem d_M_begin_0 : decode c_M_begin 0 = .ok (.aload_n 0, 1) := by decide +kernel
theorem d_M_begin_1 : decode c_M_begin 1 = .ok (.iconst 0, 1) := by decide +kernel
theorem d_M_begin_2 : decode c_M_begin 2 = .ok (.putfield 36, 3) := by decide +kernel
theorem d_M_begin_5 : decode c_M_begin 5 = .ok (.aload_n 0, 1) := by decide +kernel
theorem d_M_begin_6 : decode c_M_begin 6 = .ok (.iload_n 1, 1) := by decide +kernel
theorem d_M_begin_7 : decode c_M_begin 7 = .ok (.invokestatic 48, 3) := by decide +kernel
theorem d_M_begin_10 : decode c_M_begin 10 = .ok (.ifCond .ne 7, 3) := by decide +kernel
theorem d_M_begin_13 : decode c_M_begin 13 = .ok (.iconst 1, 1) := by decide +kernel
theorem d_M_begin_14 : decode c_M_begin 14 = .ok (.goto 4, 3) := by decide +kernel
theorem d_M_begin_17 : decode c_M_begin 17 = .ok (.iconst 0, 1) := by decide +kernel
theorem d_M_begin_18 : decode c_M_begin 18 = .ok (.iconst 1, 1) := by decide +kernel
theorem d_M_begin_19 : decode c_M_begin 19 = .ok (.invokevirtual 52, 3) := by decide +kernel
theorem d_M_begin_22 : decode c_M_begin 22 = .ok (.ifCond .ne 17, 3) := by decide +kernel
theorem d_M_begin_25 : decode c_M_begin 25 = .ok (.aload_n 0, 1) := by decide +kernel
theorem d_M_begin_26 : decode c_M_begin 26 = .ok (.aload_n 0, 1) := by decide +kernel
theorem d_M_begin_27 : decode c_M_begin 27 = .ok (.getfield 33, 3) := by decide +kernel
theorem d_M_begin_30 : decode c_M_begin 30 = .ok (.iload_n 1, 1) := by decide +kernel
theorem d_M_begin_31 : decode c_M_begin 31 = .ok (.baload, 1) := by decide +kernel
theorem d_M_begin_32 : decode c_M_begin 32 = .ok (.iconst 2, 1) := by decide +kernel
theorem d_M_begin_33 : decode c_M_begin 33 = .ok (.invokevirtual 52, 3) := by decide +kernel
theorem d_M_begin_36 : decode c_M_begin 36 = .ok (.ifCond .eq 4, 3) := by decide +kernel
theorem d_M_begin_39 : decode c_M_begin 39 = .ok (.return_, 1) := by decide +kernel
theorem d_M_begin_40 : decode c_M_begin 40 = .ok (.aload_n 0, 1) := by decide +kernel
theorem d_M_begin_41 : decode c_M_begin 41 = .ok (.getfield 33, 3) := by decide +kernel
theorem d_M_begin_44 : decode c_M_begin 44 = .ok (.iload_n 1, 1) := by decide +kernel
theorem d_M_begin_45 : decode c_M_begin 45 = .ok (.iconst 1, 1) := by decide +kernel
theorem d_M_begin_46 : decode c_M_begin 46 = .ok (.bastore, 1) := by decide +kernel
theorem d_M_begin_47 : decode c_M_begin 47 = .ok (.aload_n 0, 1) := by decide +kernel
theorem d_M_begin_48 : decode c_M_begin 48 = .ok (.getfield 20, 3) := by decide +kernel
theorem d_M_begin_51 : decode c_M_begin 51 = .ok (.iload_n 1, 1) := by decide +kernel
theorem d_M_begin_52 : decode c_M_begin 52 = .ok (.iconst 1, 1) := by decide +kernel
theorem d_M_begin_53 : decode c_M_begin 53 = .ok (.iastore, 1) := by decide +kernel
theorem d_M_begin_54 : decode c_M_begin 54 = .ok (.iconst 0, 1) := by decide +kernel
theorem d_M_begin_55 : decode c_M_begin 55 = .ok (.istore_n 2, 1) := by decide +kernel
theorem d_M_begin_56 : decode c_M_begin 56 = .ok (.iload_n 2, 1) := by decide +kernel
theorem d_M_begin_57 : decode c_M_begin 57 = .ok (.bipush 32, 2) := by decide +kernel
theorem d_M_begin_59 : decode c_M_begin 59 = .ok (.if_icmp .ge 33, 3) := by decide +kernel
theorem d_M_begin_62 : decode c_M_begin 62 = .ok (.aload_n 0, 1) := by decide +kernel
theorem d_M_begin_63 : decode c_M_begin 63 = .ok (.getfield 30, 3) := by decide +kernel
theorem d_M_begin_66 : decode c_M_begin 66 = .ok (.bipush 32, 2) := by decide +kernel
theorem d_M_begin_68 : decode c_M_begin 68 = .ok (.iload_n 1, 1) := by decide +kernel
theorem d_M_begin_69 : decode c_M_begin 69 = .ok (.imul, 1) := by decide +kernel
theorem d_M_begin_70 : decode c_M_begin 70 = .ok (.iload_n 2, 1) := by decide +kernel
theorem d_M_begin_71 : decode c_M_begin 71 = .ok (.iadd, 1) := by decide +kernel
theorem d_M_begin_72 : decode c_M_begin 72 = .ok (.iconst 0, 1) := by decide +kernel
theorem d_M_begin_73 : decode c_M_begin 73 = .ok (.bastore, 1) := by decide +kernel
theorem d_M_begin_74 : decode c_M_begin 74 = .ok (.aload_n 0, 1) := by decide +kernel
theorem d_M_begin_75 : decode c_M_begin 75 = .ok (.getfield 26, 3) := by decide +kernel
theorem d_M_begin_78 : decode c_M_begin 78 = .ok (.aload_n 0, 1) := by decide +kernel
theorem d_M_begin_79 : decode c_M_begin 79 = .ok (.iload_n 1, 1) := by decide +kernel
theorem d_M_begin_80 : decode c_M_begin 80 = .ok (.iload_n 2, 1) := by decide +kernel
theorem d_M_begin_81 : decode c_M_begin 81 = .ok (.invokevirtual 56, 3) := by decide +kernel
theorem d_M_begin_84 : decode c_M_begin 84 = .ok (.iconst 0, 1) := by decide +kernel
theorem d_M_begin_85 : decode c_M_begin 85 = .ok (.bastore, 1) := by decide +kernel
theorem d_M_begin_86 : decode c_M_begin 86 = .ok (.iinc 2 1, 3) := by decide +kernel
theorem d_M_begin_89 : decode c_M_begin 89 = .ok (.goto (-33), 3) := by decide +kernel
theorem d_M_begin_92 : decode c_M_begin 92 = .ok (.return_, 1) := by decide +kernel
theorem d_M_isOne_0 : decode c_M_isOne 0 = .ok (.iload_n 0, 1) := by decide +kernel
theorem d_M_isOne_1 : decode c_M_isOne 1 = .ok (.i2l, 1) := by decide +kernel
theorem d_M_isOne_2 : decode c_M_isOne 2 = .ok (.lconst 0, 1) := by decide +kernel
theorem d_M_isOne_3 : decode c_M_isOne 3 = .ok (.ldc2_w 40, 3) := by decide +kernel
theorem d_M_isOne_6 : decode c_M_isOne 6 = .ok (.invokestatic 42, 3) := by decide +kernel
theorem d_M_isOne_9 : decode c_M_isOne 9 = .ok (.ireturn, 1) := by decide +kernel
theorem d_M_in_0 : decode c_M_in 0 = .ok (.lload_n 0, 1) := by decide +kernel
theorem d_M_in_1 : decode c_M_in 1 = .ok (.lload_n 2, 1) := by decide +kernel
theorem d_M_in_2 : decode c_M_in 2 = .ok (.lcmp, 1) := by decide +kernel
theorem d_M_in_3 : decode c_M_in 3 = .ok (.ifCond .lt 14, 3) := by decide +kernel
theorem d_M_in_6 : decode c_M_in 6 = .ok (.lload_n 0, 1) := by decide +kernel
theorem d_M_in_7 : decode c_M_in 7 = .ok (.lload 4, 2) := by decide +kernel
theorem d_M_in_9 : decode c_M_in 9 = .ok (.lcmp, 1) := by decide +kernel
theorem d_M_in_10 : decode c_M_in 10 = .ok (.ifCond .gt 7, 3) := by decide +kernel
theorem d_M_in_13 : decode c_M_in 13 = .ok (.iconst 1, 1) := by decide +kernel
theorem d_M_in_14 : decode c_M_in 14 = .ok (.goto 4, 3) := by decide +kernel
theorem d_M_in_17 : decode c_M_in 17 = .ok (.iconst 0, 1) := by decide +kernel
theorem d_M_in_18 : decode c_M_in 18 = .ok (.ireturn, 1) := by decide +kernel
theorem d_M_fails_0 : decode c_M_fails 0 = .ok (.iload_n 1, 1) := by decide +kernel
theorem d_M_fails_1 : decode c_M_fails 1 = .ok (.ifCond .eq 15, 3) := by decide +kernel
theorem d_M_fails_4 : decode c_M_fails 4 = .ok (.aload_n 0, 1) := by decide +kernel
theorem d_M_fails_5 : decode c_M_fails 5 = .ok (.getfield 36, 3) := by decide +kernel
theorem d_M_fails_8 : decode c_M_fails 8 = .ok (.ifCond .ne 8, 3) := by decide +kernel
theorem d_M_fails_11 : decode c_M_fails 11 = .ok (.aload_n 0, 1) := by decide +kernel
theorem d_M_fails_12 : decode c_M_fails 12 = .ok (.iload_n 2, 1) := by decide +kernel
theorem d_M_fails_13 : decode c_M_fails 13 = .ok (.putfield 36, 3) := by decide +kernel
theorem d_M_fails_16 : decode c_M_fails 16 = .ok (.aload_n 0, 1) := by decide +kernel
theorem d_M_fails_17 : decode c_M_fails 17 = .ok (.getfield 36, 3) := by decide +kernel
theorem d_M_fails_20 : decode c_M_fails 20 = .ok (.ifCond .eq 7, 3) := by decide +kernel
theorem d_M_fails_23 : decode c_M_fails 23 = .ok (.iconst 1, 1) := by decide +kernel
theorem d_M_fails_24 : decode c_M_fails 24 = .ok (.goto 4, 3) := by decide +kernel
theorem d_M_fails_27 : decode c_M_fails 27 = .ok (.iconst 0, 1) := by decide +kernel
theorem d_M_fails_28 : decode c_M_fails 28 = .ok (.ireturn, 1) := by decide +kernel
theorem d_M_last_0 : decode c_M_last 0 = .ok (.iconst 5, 1) := by decide +kernel
theorem d_M_last_1 : decode c_M_last 1 = .ok (.iload_n 1, 1) := by decide +kernel
theorem d_M_last_2 : decode c_M_last 2 = .ok (.imul, 1) := by decide +kernel
theorem d_M_last_3 : decode c_M_last 3 = .ok (.aload_n 0, 1) := by decide +kernel
theorem d_M_last_4 : decode c_M_last 4 = .ok (.getfield 20, 3) := by decide +kernel
theorem d_M_last_7 : decode c_M_last 7 = .ok (.iload_n 1, 1) := by decide +kernel
theorem d_M_last_8 : decode c_M_last 8 = .ok (.iaload, 1) := by decide +kernel
theorem d_M_last_9 : decode c_M_last 9 = .ok (.iadd, 1) := by decide +kernel
theorem d_M_last_10 : decode c_M_last 10 = .ok (.iconst 1, 1) := by decide +kernel
theorem d_M_last_11 : decode c_M_last 11 = .ok (.isub, 1) := by decide +kernel
theorem d_M_last_12 : decode c_M_last 12 = .ok (.bipush 32, 2) := by decide +kernel
theorem d_M_last_14 : decode c_M_last 14 = .ok (.imul, 1) := by decide +kernel
theorem d_M_last_15 : decode c_M_last 15 = .ok (.iload_n 2, 1) := by decide +kernel
theorem d_M_last_16 : decode c_M_last 16 = .ok (.iadd, 1) := by decide +kernel
theorem d_M_last_17 : decode c_M_last 17 = .ok (.ireturn, 1) := by decide +kernel
theorem d_M_read_0 : decode c_M_read 0 = .ok (.aload_n 0, 1) := by decide +kernel
theorem d_M_read_1 : decode c_M_read 1 = .ok (.iconst 0, 1) := by decide +kernel
theorem d_M_read_2 : decode c_M_read 2 = .ok (.putfield 36, 3) := by decide +kernel
theorem d_M_read_5 : decode c_M_read 5 = .ok (.aload_n 0, 1) := by decide +kernel
theorem d_M_read_6 : decode c_M_read 6 = .ok (.iload_n 1, 1) := by decide +kernel
theorem d_M_read_7 : decode c_M_read 7 = .ok (.invokestatic 48, 3) := by decide +kernel
theorem d_M_read_10 : decode c_M_read 10 = .ok (.ifCond .ne 7, 3) := by decide +kernel
theorem d_M_read_13 : decode c_M_read 13 = .ok (.iconst 1, 1) := by decide +kernel
theorem d_M_read_14 : decode c_M_read 14 = .ok (.goto 4, 3) := by decide +kernel
theorem d_M_read_17 : decode c_M_read 17 = .ok (.iconst 0, 1) := by decide +kernel
theorem d_M_read_18 : decode c_M_read 18 = .ok (.iconst 1, 1) := by decide +kernel
theorem d_M_read_19 : decode c_M_read 19 = .ok (.invokevirtual 52, 3) := by decide +kernel
theorem d_M_read_22 : decode c_M_read 22 = .ok (.ifCond .ne 45, 3) := by decide +kernel
theorem d_M_read_25 : decode c_M_read 25 = .ok (.aload_n 0, 1) := by decide +kernel
theorem d_M_read_26 : decode c_M_read 26 = .ok (.iload_n 2, 1) := by decide +kernel
theorem d_M_read_27 : decode c_M_read 27 = .ok (.invokestatic 60, 3) := by decide +kernel
theorem d_M_read_30 : decode c_M_read 30 = .ok (.ifCond .ne 7, 3) := by decide +kernel
theorem d_M_read_33 : decode c_M_read 33 = .ok (.iconst 1, 1) := by decide +kernel
theorem d_M_read_34 : decode c_M_read 34 = .ok (.goto 4, 3) := by decide +kernel
theorem d_M_read_37 : decode c_M_read 37 = .ok (.iconst 0, 1) := by decide +kernel
theorem d_M_read_38 : decode c_M_read 38 = .ok (.iconst 2, 1) := by decide +kernel
theorem d_M_read_39 : decode c_M_read 39 = .ok (.invokevirtual 52, 3) := by decide +kernel
theorem d_M_read_42 : decode c_M_read 42 = .ok (.ifCond .ne 25, 3) := by decide +kernel
theorem d_M_read_45 : decode c_M_read 45 = .ok (.aload_n 0, 1) := by decide +kernel
theorem d_M_read_46 : decode c_M_read 46 = .ok (.aload_n 0, 1) := by decide +kernel
theorem d_M_read_47 : decode c_M_read 47 = .ok (.getfield 33, 3) := by decide +kernel
theorem d_M_read_50 : decode c_M_read 50 = .ok (.iload_n 1, 1) := by decide +kernel
theorem d_M_read_51 : decode c_M_read 51 = .ok (.baload, 1) := by decide +kernel
theorem d_M_read_52 : decode c_M_read 52 = .ok (.ifCond .ne 7, 3) := by decide +kernel
theorem d_M_read_55 : decode c_M_read 55 = .ok (.iconst 1, 1) := by decide +kernel
theorem d_M_read_56 : decode c_M_read 56 = .ok (.goto 4, 3) := by decide +kernel
theorem d_M_read_59 : decode c_M_read 59 = .ok (.iconst 0, 1) := by decide +kernel
theorem d_M_read_60 : decode c_M_read 60 = .ok (.iconst 3, 1) := by decide +kernel
theorem d_M_read_61 : decode c_M_read 61 = .ok (.invokevirtual 52, 3) := by decide +kernel
theorem d_M_read_64 : decode c_M_read 64 = .ok (.ifCond .eq 5, 3) := by decide +kernel
theorem d_M_read_67 : decode c_M_read 67 = .ok (.lconst 0, 1) := by decide +kernel
theorem d_M_read_68 : decode c_M_read 68 = .ok (.lreturn, 1) := by decide +kernel
theorem d_M_read_69 : decode c_M_read 69 = .ok (.aload_n 0, 1) := by decide +kernel
theorem d_M_read_70 : decode c_M_read 70 = .ok (.getfield 26, 3) := by decide +kernel
theorem d_M_read_73 : decode c_M_read 73 = .ok (.aload_n 0, 1) := by decide +kernel
theorem d_M_read_74 : decode c_M_read 74 = .ok (.iload_n 1, 1) := by decide +kernel
theorem d_M_read_75 : decode c_M_read 75 = .ok (.iload_n 2, 1) := by decide +kernel
theorem d_M_read_76 : decode c_M_read 76 = .ok (.invokevirtual 56, 3) := by decide +kernel
theorem d_M_read_79 : decode c_M_read 79 = .ok (.baload, 1) := by decide +kernel
theorem d_M_read_80 : decode c_M_read 80 = .ok (.ifCond .eq 15, 3) := by decide +kernel
theorem d_M_read_83 : decode c_M_read 83 = .ok (.aload_n 0, 1) := by decide +kernel
theorem d_M_read_84 : decode c_M_read 84 = .ok (.getfield 13, 3) := by decide +kernel
theorem d_M_read_87 : decode c_M_read 87 = .ok (.aload_n 0, 1) := by decide +kernel
theorem d_M_read_88 : decode c_M_read 88 = .ok (.iload_n 1, 1) := by decide +kernel
theorem d_M_read_89 : decode c_M_read 89 = .ok (.iload_n 2, 1) := by decide +kernel
theorem d_M_read_90 : decode c_M_read 90 = .ok (.invokevirtual 56, 3) := by decide +kernel
theorem d_M_read_93 : decode c_M_read 93 = .ok (.laload, 1) := by decide +kernel
theorem d_M_read_94 : decode c_M_read 94 = .ok (.lreturn, 1) := by decide +kernel
theorem d_M_read_95 : decode c_M_read 95 = .ok (.aload_n 0, 1) := by decide +kernel
theorem d_M_read_96 : decode c_M_read 96 = .ok (.iload_n 1, 1) := by decide +kernel
theorem d_M_read_97 : decode c_M_read 97 = .ok (.invokevirtual 63, 3) := by decide +kernel
theorem d_M_read_100 : decode c_M_read 100 = .ok (.ifCond .eq 29, 3) := by decide +kernel
theorem d_M_read_103 : decode c_M_read 103 = .ok (.aload_n 0, 1) := by decide +kernel
theorem d_M_read_104 : decode c_M_read 104 = .ok (.getfield 33, 3) := by decide +kernel
theorem d_M_read_107 : decode c_M_read 107 = .ok (.iload_n 1, 1) := by decide +kernel
theorem d_M_read_108 : decode c_M_read 108 = .ok (.iconst 0, 1) := by decide +kernel
theorem d_M_read_109 : decode c_M_read 109 = .ok (.bastore, 1) := by decide +kernel
theorem d_M_read_110 : decode c_M_read 110 = .ok (.aload_n 0, 1) := by decide +kernel
theorem d_M_read_111 : decode c_M_read 111 = .ok (.dup, 1) := by decide +kernel
theorem d_M_read_112 : decode c_M_read 112 = .ok (.getfield 66, 3) := by decide +kernel
theorem d_M_read_115 : decode c_M_read 115 = .ok (.iconst 1, 1) := by decide +kernel
theorem d_M_read_116 : decode c_M_read 116 = .ok (.iadd, 1) := by decide +kernel
theorem d_M_read_117 : decode c_M_read 117 = .ok (.putfield 66, 3) := by decide +kernel
theorem d_M_read_120 : decode c_M_read 120 = .ok (.aload_n 0, 1) := by decide +kernel
theorem d_M_read_121 : decode c_M_read 121 = .ok (.iconst 1, 1) := by decide +kernel
theorem d_M_read_122 : decode c_M_read 122 = .ok (.iconst 4, 1) := by decide +kernel
theorem d_M_read_123 : decode c_M_read 123 = .ok (.invokevirtual 52, 3) := by decide +kernel
theorem d_M_read_126 : decode c_M_read 126 = .ok (.pop, 1) := by decide +kernel
theorem d_M_read_127 : decode c_M_read 127 = .ok (.lconst 0, 1) := by decide +kernel
theorem d_M_read_128 : decode c_M_read 128 = .ok (.lreturn, 1) := by decide +kernel
theorem d_M_read_129 : decode c_M_read 129 = .ok (.aload_n 0, 1) := by decide +kernel
theorem d_M_read_130 : decode c_M_read 130 = .ok (.getfield 30, 3) := by decide +kernel
theorem d_M_read_133 : decode c_M_read 133 = .ok (.bipush 32, 2) := by decide +kernel
theorem d_M_read_135 : decode c_M_read 135 = .ok (.iload_n 1, 1) := by decide +kernel
theorem d_M_read_136 : decode c_M_read 136 = .ok (.imul, 1) := by decide +kernel
theorem d_M_read_137 : decode c_M_read 137 = .ok (.iload_n 2, 1) := by decide +kernel
theorem d_M_read_138 : decode c_M_read 138 = .ok (.iadd, 1) := by decide +kernel
theorem d_M_read_139 : decode c_M_read 139 = .ok (.baload, 1) := by decide +kernel
theorem d_M_read_140 : decode c_M_read 140 = .ok (.ifCond .ne 20, 3) := by decide +kernel
theorem d_M_read_143 : decode c_M_read 143 = .ok (.aload_n 0, 1) := by decide +kernel
theorem d_M_read_144 : decode c_M_read 144 = .ok (.getfield 23, 3) := by decide +kernel
theorem d_M_read_147 : decode c_M_read 147 = .ok (.bipush 32, 2) := by decide +kernel
theorem d_M_read_149 : decode c_M_read 149 = .ok (.iload_n 1, 1) := by decide +kernel
theorem d_M_read_150 : decode c_M_read 150 = .ok (.imul, 1) := by decide +kernel
theorem d_M_read_151 : decode c_M_read 151 = .ok (.iload_n 2, 1) := by decide +kernel
theorem d_M_read_152 : decode c_M_read 152 = .ok (.iadd, 1) := by decide +kernel
theorem d_M_read_153 : decode c_M_read 153 = .ok (.aload_n 0, 1) := by decide +kernel
theorem d_M_read_154 : decode c_M_read 154 = .ok (.getfield 16, 3) := by decide +kernel
theorem d_M_read_157 : decode c_M_read 157 = .ok (.iload_n 2, 1) := by decide +kernel
theorem d_M_read_158 : decode c_M_read 158 = .ok (.iaload, 1) := by decide +kernel
theorem d_M_read_159 : decode c_M_read 159 = .ok (.iastore, 1) := by decide +kernel
theorem d_M_read_160 : decode c_M_read 160 = .ok (.aload_n 0, 1) := by decide +kernel
theorem d_M_read_161 : decode c_M_read 161 = .ok (.getfield 30, 3) := by decide +kernel
theorem d_M_read_164 : decode c_M_read 164 = .ok (.bipush 32, 2) := by decide +kernel
theorem d_M_read_166 : decode c_M_read 166 = .ok (.iload_n 1, 1) := by decide +kernel
theorem d_M_read_167 : decode c_M_read 167 = .ok (.imul, 1) := by decide +kernel
theorem d_M_read_168 : decode c_M_read 168 = .ok (.iload_n 2, 1) := by decide +kernel
theorem d_M_read_169 : decode c_M_read 169 = .ok (.iadd, 1) := by decide +kernel
theorem d_M_read_170 : decode c_M_read 170 = .ok (.iconst 1, 1) := by decide +kernel
theorem d_M_read_171 : decode c_M_read 171 = .ok (.bastore, 1) := by decide +kernel
theorem d_M_read_172 : decode c_M_read 172 = .ok (.aload_n 0, 1) := by decide +kernel
theorem d_M_read_173 : decode c_M_read 173 = .ok (.getfield 9, 3) := by decide +kernel
theorem d_M_read_176 : decode c_M_read 176 = .ok (.iload_n 2, 1) := by decide +kernel
theorem d_M_read_177 : decode c_M_read 177 = .ok (.laload, 1) := by decide +kernel
theorem d_M_read_178 : decode c_M_read 178 = .ok (.lreturn, 1) := by decide +kernel
theorem d_M_isCell_0 : decode c_M_isCell 0 = .ok (.iload_n 0, 1) := by decide +kernel
theorem d_M_isCell_1 : decode c_M_isCell 1 = .ok (.i2l, 1) := by decide +kernel
theorem d_M_isCell_2 : decode c_M_isCell 2 = .ok (.lconst 0, 1) := by decide +kernel
theorem d_M_isCell_3 : decode c_M_isCell 3 = .ok (.ldc2_w 46, 3) := by decide +kernel
theorem d_M_isCell_6 : decode c_M_isCell 6 = .ok (.invokestatic 42, 3) := by decide +kernel
theorem d_M_isCell_9 : decode c_M_isCell 9 = .ok (.ireturn, 1) := by decide +kernel
theorem d_M_isStale_0 : decode c_M_isStale 0 = .ok (.iconst 0, 1) := by decide +kernel
theorem d_M_isStale_1 : decode c_M_isStale 1 = .ok (.istore_n 2, 1) := by decide +kernel
theorem d_M_isStale_2 : decode c_M_isStale 2 = .ok (.iload_n 2, 1) := by decide +kernel
theorem d_M_isStale_3 : decode c_M_isStale 3 = .ok (.bipush 32, 2) := by decide +kernel
theorem d_M_isStale_5 : decode c_M_isStale 5 = .ok (.if_icmp .ge 45, 3) := by decide +kernel
theorem d_M_isStale_8 : decode c_M_isStale 8 = .ok (.aload_n 0, 1) := by decide +kernel
theorem d_M_isStale_9 : decode c_M_isStale 9 = .ok (.getfield 30, 3) := by decide +kernel
theorem d_M_isStale_12 : decode c_M_isStale 12 = .ok (.bipush 32, 2) := by decide +kernel
theorem d_M_isStale_14 : decode c_M_isStale 14 = .ok (.iload_n 1, 1) := by decide +kernel
theorem d_M_isStale_15 : decode c_M_isStale 15 = .ok (.imul, 1) := by decide +kernel
theorem d_M_isStale_16 : decode c_M_isStale 16 = .ok (.iload_n 2, 1) := by decide +kernel
theorem d_M_isStale_17 : decode c_M_isStale 17 = .ok (.iadd, 1) := by decide +kernel
theorem d_M_isStale_18 : decode c_M_isStale 18 = .ok (.baload, 1) := by decide +kernel
theorem d_M_isStale_19 : decode c_M_isStale 19 = .ok (.ifCond .eq 25, 3) := by decide +kernel
theorem d_M_isStale_22 : decode c_M_isStale 22 = .ok (.aload_n 0, 1) := by decide +kernel
theorem d_M_isStale_23 : decode c_M_isStale 23 = .ok (.getfield 23, 3) := by decide +kernel
theorem d_M_isStale_26 : decode c_M_isStale 26 = .ok (.bipush 32, 2) := by decide +kernel
theorem d_M_isStale_28 : decode c_M_isStale 28 = .ok (.iload_n 1, 1) := by decide +kernel
theorem d_M_isStale_29 : decode c_M_isStale 29 = .ok (.imul, 1) := by decide +kernel
theorem d_M_isStale_30 : decode c_M_isStale 30 = .ok (.iload_n 2, 1) := by decide +kernel
theorem d_M_isStale_31 : decode c_M_isStale 31 = .ok (.iadd, 1) := by decide +kernel
theorem d_M_isStale_32 : decode c_M_isStale 32 = .ok (.iaload, 1) := by decide +kernel
theorem d_M_isStale_33 : decode c_M_isStale 33 = .ok (.aload_n 0, 1) := by decide +kernel
theorem d_M_isStale_34 : decode c_M_isStale 34 = .ok (.getfield 16, 3) := by decide +kernel
theorem d_M_isStale_37 : decode c_M_isStale 37 = .ok (.iload_n 2, 1) := by decide +kernel
theorem d_M_isStale_38 : decode c_M_isStale 38 = .ok (.iaload, 1) := by decide +kernel
theorem d_M_isStale_39 : decode c_M_isStale 39 = .ok (.if_icmp .eq 5, 3) := by decide +kernel
theorem d_M_isStale_42 : decode c_M_isStale 42 = .ok (.iconst 1, 1) := by decide +kernel
theorem d_M_isStale_43 : decode c_M_isStale 43 = .ok (.ireturn, 1) := by decide +kernel
theorem d_M_isStale_44 : decode c_M_isStale 44 = .ok (.iinc 2 1, 3) := by decide +kernel
theorem d_M_isStale_47 : decode c_M_isStale 47 = .ok (.goto (-45), 3) := by decide +kernel
theorem d_M_isStale_50 : decode c_M_isStale 50 = .ok (.iconst 0, 1) := by decide +kernel
theorem d_M_isStale_51 : decode c_M_isStale 51 = .ok (.ireturn, 1) := by decide +kernel
theorem d_M_write_0 : decode c_M_write 0 = .ok (.aload_n 0, 1) := by decide +kernel
theorem d_M_write_1 : decode c_M_write 1 = .ok (.iconst 0, 1) := by decide +kernel
theorem d_M_write_2 : decode c_M_write 2 = .ok (.putfield 36, 3) := by decide +kernel
theorem d_M_write_5 : decode c_M_write 5 = .ok (.aload_n 0, 1) := by decide +kernel
theorem d_M_write_6 : decode c_M_write 6 = .ok (.iload_n 1, 1) := by decide +kernel
theorem d_M_write_7 : decode c_M_write 7 = .ok (.invokestatic 48, 3) := by decide +kernel
theorem d_M_write_10 : decode c_M_write 10 = .ok (.ifCond .ne 7, 3) := by decide +kernel
theorem d_M_write_13 : decode c_M_write 13 = .ok (.iconst 1, 1) := by decide +kernel
theorem d_M_write_14 : decode c_M_write 14 = .ok (.goto 4, 3) := by decide +kernel
theorem d_M_write_17 : decode c_M_write 17 = .ok (.iconst 0, 1) := by decide +kernel
theorem d_M_write_18 : decode c_M_write 18 = .ok (.iconst 1, 1) := by decide +kernel
theorem d_M_write_19 : decode c_M_write 19 = .ok (.invokevirtual 52, 3) := by decide +kernel
theorem d_M_write_22 : decode c_M_write 22 = .ok (.ifCond .ne 45, 3) := by decide +kernel
theorem d_M_write_25 : decode c_M_write 25 = .ok (.aload_n 0, 1) := by decide +kernel
theorem d_M_write_26 : decode c_M_write 26 = .ok (.iload_n 2, 1) := by decide +kernel
theorem d_M_write_27 : decode c_M_write 27 = .ok (.invokestatic 60, 3) := by decide +kernel
theorem d_M_write_30 : decode c_M_write 30 = .ok (.ifCond .ne 7, 3) := by decide +kernel
theorem d_M_write_33 : decode c_M_write 33 = .ok (.iconst 1, 1) := by decide +kernel
theorem d_M_write_34 : decode c_M_write 34 = .ok (.goto 4, 3) := by decide +kernel
theorem d_M_write_37 : decode c_M_write 37 = .ok (.iconst 0, 1) := by decide +kernel
theorem d_M_write_38 : decode c_M_write 38 = .ok (.iconst 2, 1) := by decide +kernel
theorem d_M_write_39 : decode c_M_write 39 = .ok (.invokevirtual 52, 3) := by decide +kernel
theorem d_M_write_42 : decode c_M_write 42 = .ok (.ifCond .ne 25, 3) := by decide +kernel
theorem d_M_write_45 : decode c_M_write 45 = .ok (.aload_n 0, 1) := by decide +kernel
theorem d_M_write_46 : decode c_M_write 46 = .ok (.aload_n 0, 1) := by decide +kernel
theorem d_M_write_47 : decode c_M_write 47 = .ok (.getfield 33, 3) := by decide +kernel
theorem d_M_write_50 : decode c_M_write 50 = .ok (.iload_n 1, 1) := by decide +kernel
theorem d_M_write_51 : decode c_M_write 51 = .ok (.baload, 1) := by decide +kernel
theorem d_M_write_52 : decode c_M_write 52 = .ok (.ifCond .ne 7, 3) := by decide +kernel
theorem d_M_write_55 : decode c_M_write 55 = .ok (.iconst 1, 1) := by decide +kernel
theorem d_M_write_56 : decode c_M_write 56 = .ok (.goto 4, 3) := by decide +kernel
theorem d_M_write_59 : decode c_M_write 59 = .ok (.iconst 0, 1) := by decide +kernel
theorem d_M_write_60 : decode c_M_write 60 = .ok (.iconst 3, 1) := by decide +kernel
theorem d_M_write_61 : decode c_M_write 61 = .ok (.invokevirtual 52, 3) := by decide +kernel
theorem d_M_write_64 : decode c_M_write 64 = .ok (.ifCond .eq 4, 3) := by decide +kernel
theorem d_M_write_67 : decode c_M_write 67 = .ok (.return_, 1) := by decide +kernel
theorem d_M_write_68 : decode c_M_write 68 = .ok (.aload_n 0, 1) := by decide +kernel
theorem d_M_write_69 : decode c_M_write 69 = .ok (.getfield 26, 3) := by decide +kernel
theorem d_M_write_72 : decode c_M_write 72 = .ok (.aload_n 0, 1) := by decide +kernel
theorem d_M_write_73 : decode c_M_write 73 = .ok (.iload_n 1, 1) := by decide +kernel
theorem d_M_write_74 : decode c_M_write 74 = .ok (.iload_n 2, 1) := by decide +kernel
theorem d_M_write_75 : decode c_M_write 75 = .ok (.invokevirtual 56, 3) := by decide +kernel
theorem d_M_write_78 : decode c_M_write 78 = .ok (.iconst 1, 1) := by decide +kernel
theorem d_M_write_79 : decode c_M_write 79 = .ok (.bastore, 1) := by decide +kernel
theorem d_M_write_80 : decode c_M_write 80 = .ok (.aload_n 0, 1) := by decide +kernel
theorem d_M_write_81 : decode c_M_write 81 = .ok (.getfield 13, 3) := by decide +kernel
theorem d_M_write_84 : decode c_M_write 84 = .ok (.aload_n 0, 1) := by decide +kernel
theorem d_M_write_85 : decode c_M_write 85 = .ok (.iload_n 1, 1) := by decide +kernel
theorem d_M_write_86 : decode c_M_write 86 = .ok (.iload_n 2, 1) := by decide +kernel
theorem d_M_write_87 : decode c_M_write 87 = .ok (.invokevirtual 56, 3) := by decide +kernel
theorem d_M_write_90 : decode c_M_write 90 = .ok (.lload_n 3, 1) := by decide +kernel
theorem d_M_write_91 : decode c_M_write 91 = .ok (.lastore, 1) := by decide +kernel
theorem d_M_write_92 : decode c_M_write 92 = .ok (.return_, 1) := by decide +kernel
theorem d_M_save_0 : decode c_M_save 0 = .ok (.aload_n 0, 1) := by decide +kernel
theorem d_M_save_1 : decode c_M_save 1 = .ok (.iconst 0, 1) := by decide +kernel
theorem d_M_save_2 : decode c_M_save 2 = .ok (.putfield 36, 3) := by decide +kernel
theorem d_M_save_5 : decode c_M_save 5 = .ok (.aload_n 0, 1) := by decide +kernel
theorem d_M_save_6 : decode c_M_save 6 = .ok (.iload_n 1, 1) := by decide +kernel
theorem d_M_save_7 : decode c_M_save 7 = .ok (.invokestatic 48, 3) := by decide +kernel
theorem d_M_save_10 : decode c_M_save 10 = .ok (.ifCond .ne 7, 3) := by decide +kernel
theorem d_M_save_13 : decode c_M_save 13 = .ok (.iconst 1, 1) := by decide +kernel
theorem d_M_save_14 : decode c_M_save 14 = .ok (.goto 4, 3) := by decide +kernel
theorem d_M_save_17 : decode c_M_save 17 = .ok (.iconst 0, 1) := by decide +kernel
theorem d_M_save_18 : decode c_M_save 18 = .ok (.iconst 1, 1) := by decide +kernel
theorem d_M_save_19 : decode c_M_save 19 = .ok (.invokevirtual 52, 3) := by decide +kernel
theorem d_M_save_22 : decode c_M_save 22 = .ok (.ifCond .ne 48, 3) := by decide +kernel
theorem d_M_save_25 : decode c_M_save 25 = .ok (.aload_n 0, 1) := by decide +kernel
theorem d_M_save_26 : decode c_M_save 26 = .ok (.aload_n 0, 1) := by decide +kernel
theorem d_M_save_27 : decode c_M_save 27 = .ok (.getfield 33, 3) := by decide +kernel
theorem d_M_save_30 : decode c_M_save 30 = .ok (.iload_n 1, 1) := by decide +kernel
theorem d_M_save_31 : decode c_M_save 31 = .ok (.baload, 1) := by decide +kernel
theorem d_M_save_32 : decode c_M_save 32 = .ok (.ifCond .ne 7, 3) := by decide +kernel
theorem d_M_save_35 : decode c_M_save 35 = .ok (.iconst 1, 1) := by decide +kernel
theorem d_M_save_36 : decode c_M_save 36 = .ok (.goto 4, 3) := by decide +kernel
theorem d_M_save_39 : decode c_M_save 39 = .ok (.iconst 0, 1) := by decide +kernel
theorem d_M_save_40 : decode c_M_save 40 = .ok (.iconst 2, 1) := by decide +kernel
theorem d_M_save_41 : decode c_M_save 41 = .ok (.invokevirtual 52, 3) := by decide +kernel
theorem d_M_save_44 : decode c_M_save 44 = .ok (.ifCond .ne 26, 3) := by decide +kernel
theorem d_M_save_47 : decode c_M_save 47 = .ok (.aload_n 0, 1) := by decide +kernel
theorem d_M_save_48 : decode c_M_save 48 = .ok (.aload_n 0, 1) := by decide +kernel
theorem d_M_save_49 : decode c_M_save 49 = .ok (.getfield 20, 3) := by decide +kernel
theorem d_M_save_52 : decode c_M_save 52 = .ok (.iload_n 1, 1) := by decide +kernel
theorem d_M_save_53 : decode c_M_save 53 = .ok (.iaload, 1) := by decide +kernel
theorem d_M_save_54 : decode c_M_save 54 = .ok (.iconst 5, 1) := by decide +kernel
theorem d_M_save_55 : decode c_M_save 55 = .ok (.if_icmp .ne 7, 3) := by decide +kernel
theorem d_M_save_58 : decode c_M_save 58 = .ok (.iconst 1, 1) := by decide +kernel
theorem d_M_save_59 : decode c_M_save 59 = .ok (.goto 4, 3) := by decide +kernel
theorem d_M_save_62 : decode c_M_save 62 = .ok (.iconst 0, 1) := by decide +kernel
theorem d_M_save_63 : decode c_M_save 63 = .ok (.iconst 3, 1) := by decide +kernel
theorem d_M_save_64 : decode c_M_save 64 = .ok (.invokevirtual 52, 3) := by decide +kernel
theorem d_M_save_67 : decode c_M_save 67 = .ok (.ifCond .eq 5, 3) := by decide +kernel
theorem d_M_save_70 : decode c_M_save 70 = .ok (.iconst 0, 1) := by decide +kernel
theorem d_M_save_71 : decode c_M_save 71 = .ok (.ireturn, 1) := by decide +kernel
theorem d_M_save_72 : decode c_M_save 72 = .ok (.aload_n 0, 1) := by decide +kernel
theorem d_M_save_73 : decode c_M_save 73 = .ok (.getfield 20, 3) := by decide +kernel
theorem d_M_save_76 : decode c_M_save 76 = .ok (.iload_n 1, 1) := by decide +kernel
theorem d_M_save_77 : decode c_M_save 77 = .ok (.dup2, 1) := by decide +kernel
theorem d_M_save_78 : decode c_M_save 78 = .ok (.iaload, 1) := by decide +kernel
theorem d_M_save_79 : decode c_M_save 79 = .ok (.iconst 1, 1) := by decide +kernel
theorem d_M_save_80 : decode c_M_save 80 = .ok (.iadd, 1) := by decide +kernel
theorem d_M_save_81 : decode c_M_save 81 = .ok (.iastore, 1) := by decide +kernel
theorem d_M_save_82 : decode c_M_save 82 = .ok (.aload_n 0, 1) := by decide +kernel
theorem d_M_save_83 : decode c_M_save 83 = .ok (.aload_n 0, 1) := by decide +kernel
theorem d_M_save_84 : decode c_M_save 84 = .ok (.iload_n 1, 1) := by decide +kernel
theorem d_M_save_85 : decode c_M_save 85 = .ok (.iconst 0, 1) := by decide +kernel
theorem d_M_save_86 : decode c_M_save 86 = .ok (.invokevirtual 56, 3) := by decide +kernel
theorem d_M_save_89 : decode c_M_save 89 = .ok (.bipush 32, 2) := by decide +kernel
theorem d_M_save_91 : decode c_M_save 91 = .ok (.isub, 1) := by decide +kernel
theorem d_M_save_92 : decode c_M_save 92 = .ok (.aload_n 0, 1) := by decide +kernel
theorem d_M_save_93 : decode c_M_save 93 = .ok (.iload_n 1, 1) := by decide +kernel
theorem d_M_save_94 : decode c_M_save 94 = .ok (.iconst 0, 1) := by decide +kernel
theorem d_M_save_95 : decode c_M_save 95 = .ok (.invokevirtual 56, 3) := by decide +kernel
theorem d_M_save_98 : decode c_M_save 98 = .ok (.invokevirtual 69, 3) := by decide +kernel
theorem d_M_save_101 : decode c_M_save 101 = .ok (.aload_n 0, 1) := by decide +kernel
theorem d_M_save_102 : decode c_M_save 102 = .ok (.getfield 20, 3) := by decide +kernel
theorem d_M_save_105 : decode c_M_save 105 = .ok (.iload_n 1, 1) := by decide +kernel
theorem d_M_save_106 : decode c_M_save 106 = .ok (.iaload, 1) := by decide +kernel
theorem d_M_save_107 : decode c_M_save 107 = .ok (.ireturn, 1) := by decide +kernel
theorem d_M_copy_0 : decode c_M_copy 0 = .ok (.iconst 0, 1) := by decide +kernel
theorem d_M_copy_1 : decode c_M_copy 1 = .ok (.istore_n 3, 1) := by decide +kernel
theorem d_M_copy_2 : decode c_M_copy 2 = .ok (.iload_n 3, 1) := by decide +kernel
theorem d_M_copy_3 : decode c_M_copy 3 = .ok (.bipush 32, 2) := by decide +kernel
theorem d_M_copy_5 : decode c_M_copy 5 = .ok (.if_icmp .ge 41, 3) := by decide +kernel
theorem d_M_copy_8 : decode c_M_copy 8 = .ok (.aload_n 0, 1) := by decide +kernel
theorem d_M_copy_9 : decode c_M_copy 9 = .ok (.getfield 26, 3) := by decide +kernel
theorem d_M_copy_12 : decode c_M_copy 12 = .ok (.iload_n 2, 1) := by decide +kernel
theorem d_M_copy_13 : decode c_M_copy 13 = .ok (.iload_n 3, 1) := by decide +kernel
theorem d_M_copy_14 : decode c_M_copy 14 = .ok (.iadd, 1) := by decide +kernel
theorem d_M_copy_15 : decode c_M_copy 15 = .ok (.aload_n 0, 1) := by decide +kernel
theorem d_M_copy_16 : decode c_M_copy 16 = .ok (.getfield 26, 3) := by decide +kernel
theorem d_M_copy_19 : decode c_M_copy 19 = .ok (.iload_n 1, 1) := by decide +kernel
theorem d_M_copy_20 : decode c_M_copy 20 = .ok (.iload_n 3, 1) := by decide +kernel
theorem d_M_copy_21 : decode c_M_copy 21 = .ok (.iadd, 1) := by decide +kernel
theorem d_M_copy_22 : decode c_M_copy 22 = .ok (.baload, 1) := by decide +kernel
theorem d_M_copy_23 : decode c_M_copy 23 = .ok (.bastore, 1) := by decide +kernel
theorem d_M_copy_24 : decode c_M_copy 24 = .ok (.aload_n 0, 1) := by decide +kernel
theorem d_M_copy_25 : decode c_M_copy 25 = .ok (.getfield 13, 3) := by decide +kernel
theorem d_M_copy_28 : decode c_M_copy 28 = .ok (.iload_n 2, 1) := by decide +kernel
theorem d_M_copy_29 : decode c_M_copy 29 = .ok (.iload_n 3, 1) := by decide +kernel
theorem d_M_copy_30 : decode c_M_copy 30 = .ok (.iadd, 1) := by decide +kernel
theorem d_M_copy_31 : decode c_M_copy 31 = .ok (.aload_n 0, 1) := by decide +kernel
theorem d_M_copy_32 : decode c_M_copy 32 = .ok (.getfield 13, 3) := by decide +kernel
theorem d_M_copy_35 : decode c_M_copy 35 = .ok (.iload_n 1, 1) := by decide +kernel
theorem d_M_copy_36 : decode c_M_copy 36 = .ok (.iload_n 3, 1) := by decide +kernel
theorem d_M_copy_37 : decode c_M_copy 37 = .ok (.iadd, 1) := by decide +kernel
theorem d_M_copy_38 : decode c_M_copy 38 = .ok (.laload, 1) := by decide +kernel
theorem d_M_copy_39 : decode c_M_copy 39 = .ok (.lastore, 1) := by decide +kernel
theorem d_M_copy_40 : decode c_M_copy 40 = .ok (.iinc 3 1, 3) := by decide +kernel
theorem d_M_copy_43 : decode c_M_copy 43 = .ok (.goto (-41), 3) := by decide +kernel
theorem d_M_copy_46 : decode c_M_copy 46 = .ok (.return_, 1) := by decide +kernel
theorem d_M_back_0 : decode c_M_back 0 = .ok (.aload_n 0, 1) := by decide +kernel
theorem d_M_back_1 : decode c_M_back 1 = .ok (.iconst 0, 1) := by decide +kernel
theorem d_M_back_2 : decode c_M_back 2 = .ok (.putfield 36, 3) := by decide +kernel
theorem d_M_back_5 : decode c_M_back 5 = .ok (.aload_n 0, 1) := by decide +kernel
theorem d_M_back_6 : decode c_M_back 6 = .ok (.iload_n 1, 1) := by decide +kernel
theorem d_M_back_7 : decode c_M_back 7 = .ok (.invokestatic 48, 3) := by decide +kernel
theorem d_M_back_10 : decode c_M_back 10 = .ok (.ifCond .ne 7, 3) := by decide +kernel
theorem d_M_back_13 : decode c_M_back 13 = .ok (.iconst 1, 1) := by decide +kernel
theorem d_M_back_14 : decode c_M_back 14 = .ok (.goto 4, 3) := by decide +kernel
theorem d_M_back_17 : decode c_M_back 17 = .ok (.iconst 0, 1) := by decide +kernel
theorem d_M_back_18 : decode c_M_back 18 = .ok (.iconst 1, 1) := by decide +kernel
theorem d_M_back_19 : decode c_M_back 19 = .ok (.invokevirtual 52, 3) := by decide +kernel
theorem d_M_back_22 : decode c_M_back 22 = .ok (.ifCond .ne 48, 3) := by decide +kernel
theorem d_M_back_25 : decode c_M_back 25 = .ok (.aload_n 0, 1) := by decide +kernel
theorem d_M_back_26 : decode c_M_back 26 = .ok (.aload_n 0, 1) := by decide +kernel
theorem d_M_back_27 : decode c_M_back 27 = .ok (.getfield 33, 3) := by decide +kernel
theorem d_M_back_30 : decode c_M_back 30 = .ok (.iload_n 1, 1) := by decide +kernel
theorem d_M_back_31 : decode c_M_back 31 = .ok (.baload, 1) := by decide +kernel
theorem d_M_back_32 : decode c_M_back 32 = .ok (.ifCond .ne 7, 3) := by decide +kernel
theorem d_M_back_35 : decode c_M_back 35 = .ok (.iconst 1, 1) := by decide +kernel
theorem d_M_back_36 : decode c_M_back 36 = .ok (.goto 4, 3) := by decide +kernel
theorem d_M_back_39 : decode c_M_back 39 = .ok (.iconst 0, 1) := by decide +kernel
theorem d_M_back_40 : decode c_M_back 40 = .ok (.iconst 2, 1) := by decide +kernel
theorem d_M_back_41 : decode c_M_back 41 = .ok (.invokevirtual 52, 3) := by decide +kernel
theorem d_M_back_44 : decode c_M_back 44 = .ok (.ifCond .ne 26, 3) := by decide +kernel
theorem d_M_back_47 : decode c_M_back 47 = .ok (.aload_n 0, 1) := by decide +kernel
theorem d_M_back_48 : decode c_M_back 48 = .ok (.aload_n 0, 1) := by decide +kernel
theorem d_M_back_49 : decode c_M_back 49 = .ok (.getfield 20, 3) := by decide +kernel
theorem d_M_back_52 : decode c_M_back 52 = .ok (.iload_n 1, 1) := by decide +kernel
theorem d_M_back_53 : decode c_M_back 53 = .ok (.iaload, 1) := by decide +kernel
theorem d_M_back_54 : decode c_M_back 54 = .ok (.iconst 1, 1) := by decide +kernel
theorem d_M_back_55 : decode c_M_back 55 = .ok (.if_icmp .ne 7, 3) := by decide +kernel
theorem d_M_back_58 : decode c_M_back 58 = .ok (.iconst 1, 1) := by decide +kernel
theorem d_M_back_59 : decode c_M_back 59 = .ok (.goto 4, 3) := by decide +kernel
theorem d_M_back_62 : decode c_M_back 62 = .ok (.iconst 0, 1) := by decide +kernel
theorem d_M_back_63 : decode c_M_back 63 = .ok (.iconst 3, 1) := by decide +kernel
theorem d_M_back_64 : decode c_M_back 64 = .ok (.invokevirtual 52, 3) := by decide +kernel
theorem d_M_back_67 : decode c_M_back 67 = .ok (.ifCond .eq 4, 3) := by decide +kernel
theorem d_M_back_70 : decode c_M_back 70 = .ok (.return_, 1) := by decide +kernel
theorem d_M_back_71 : decode c_M_back 71 = .ok (.aload_n 0, 1) := by decide +kernel
theorem d_M_back_72 : decode c_M_back 72 = .ok (.getfield 20, 3) := by decide +kernel
theorem d_M_back_75 : decode c_M_back 75 = .ok (.iload_n 1, 1) := by decide +kernel
theorem d_M_back_76 : decode c_M_back 76 = .ok (.dup2, 1) := by decide +kernel
theorem d_M_back_77 : decode c_M_back 77 = .ok (.iaload, 1) := by decide +kernel
theorem d_M_back_78 : decode c_M_back 78 = .ok (.iconst 1, 1) := by decide +kernel
theorem d_M_back_79 : decode c_M_back 79 = .ok (.isub, 1) := by decide +kernel
theorem d_M_back_80 : decode c_M_back 80 = .ok (.iastore, 1) := by decide +kernel
theorem d_M_back_81 : decode c_M_back 81 = .ok (.return_, 1) := by decide +kernel
theorem d_M_keep_0 : decode c_M_keep 0 = .ok (.aload_n 0, 1) := by decide +kernel
theorem d_M_keep_1 : decode c_M_keep 1 = .ok (.iconst 0, 1) := by decide +kernel
theorem d_M_keep_2 : decode c_M_keep 2 = .ok (.putfield 36, 3) := by decide +kernel
theorem d_M_keep_5 : decode c_M_keep 5 = .ok (.aload_n 0, 1) := by decide +kernel
theorem d_M_keep_6 : decode c_M_keep 6 = .ok (.iload_n 1, 1) := by decide +kernel
theorem d_M_keep_7 : decode c_M_keep 7 = .ok (.invokestatic 48, 3) := by decide +kernel
theorem d_M_keep_10 : decode c_M_keep 10 = .ok (.ifCond .ne 7, 3) := by decide +kernel
theorem d_M_keep_13 : decode c_M_keep 13 = .ok (.iconst 1, 1) := by decide +kernel
theorem d_M_keep_14 : decode c_M_keep 14 = .ok (.goto 4, 3) := by decide +kernel
theorem d_M_keep_17 : decode c_M_keep 17 = .ok (.iconst 0, 1) := by decide +kernel
theorem d_M_keep_18 : decode c_M_keep 18 = .ok (.iconst 1, 1) := by decide +kernel
theorem d_M_keep_19 : decode c_M_keep 19 = .ok (.invokevirtual 52, 3) := by decide +kernel
theorem d_M_keep_22 : decode c_M_keep 22 = .ok (.ifCond .ne 48, 3) := by decide +kernel
theorem d_M_keep_25 : decode c_M_keep 25 = .ok (.aload_n 0, 1) := by decide +kernel
theorem d_M_keep_26 : decode c_M_keep 26 = .ok (.aload_n 0, 1) := by decide +kernel
theorem d_M_keep_27 : decode c_M_keep 27 = .ok (.getfield 33, 3) := by decide +kernel
theorem d_M_keep_30 : decode c_M_keep 30 = .ok (.iload_n 1, 1) := by decide +kernel
theorem d_M_keep_31 : decode c_M_keep 31 = .ok (.baload, 1) := by decide +kernel
theorem d_M_keep_32 : decode c_M_keep 32 = .ok (.ifCond .ne 7, 3) := by decide +kernel
theorem d_M_keep_35 : decode c_M_keep 35 = .ok (.iconst 1, 1) := by decide +kernel
theorem d_M_keep_36 : decode c_M_keep 36 = .ok (.goto 4, 3) := by decide +kernel
theorem d_M_keep_39 : decode c_M_keep 39 = .ok (.iconst 0, 1) := by decide +kernel
theorem d_M_keep_40 : decode c_M_keep 40 = .ok (.iconst 2, 1) := by decide +kernel
theorem d_M_keep_41 : decode c_M_keep 41 = .ok (.invokevirtual 52, 3) := by decide +kernel
theorem d_M_keep_44 : decode c_M_keep 44 = .ok (.ifCond .ne 26, 3) := by decide +kernel
theorem d_M_keep_47 : decode c_M_keep 47 = .ok (.aload_n 0, 1) := by decide +kernel
theorem d_M_keep_48 : decode c_M_keep 48 = .ok (.aload_n 0, 1) := by decide +kernel
theorem d_M_keep_49 : decode c_M_keep 49 = .ok (.getfield 20, 3) := by decide +kernel
theorem d_M_keep_52 : decode c_M_keep 52 = .ok (.iload_n 1, 1) := by decide +kernel
theorem d_M_keep_53 : decode c_M_keep 53 = .ok (.iaload, 1) := by decide +kernel
theorem d_M_keep_54 : decode c_M_keep 54 = .ok (.iconst 1, 1) := by decide +kernel
theorem d_M_keep_55 : decode c_M_keep 55 = .ok (.if_icmp .ne 7, 3) := by decide +kernel
theorem d_M_keep_58 : decode c_M_keep 58 = .ok (.iconst 1, 1) := by decide +kernel
theorem d_M_keep_59 : decode c_M_keep 59 = .ok (.goto 4, 3) := by decide +kernel
theorem d_M_keep_62 : decode c_M_keep 62 = .ok (.iconst 0, 1) := by decide +kernel
theorem d_M_keep_63 : decode c_M_keep 63 = .ok (.iconst 3, 1) := by decide +kernel
theorem d_M_keep_64 : decode c_M_keep 64 = .ok (.invokevirtual 52, 3) := by decide +kernel
theorem d_M_keep_67 : decode c_M_keep 67 = .ok (.ifCond .eq 4, 3) := by decide +kernel
theorem d_M_keep_70 : decode c_M_keep 70 = .ok (.return_, 1) := by decide +kernel
theorem d_M_keep_71 : decode c_M_keep 71 = .ok (.aload_n 0, 1) := by decide +kernel
theorem d_M_keep_72 : decode c_M_keep 72 = .ok (.getfield 20, 3) := by decide +kernel
theorem d_M_keep_75 : decode c_M_keep 75 = .ok (.iload_n 1, 1) := by decide +kernel
theorem d_M_keep_76 : decode c_M_keep 76 = .ok (.dup2, 1) := by decide +kernel
theorem d_M_keep_77 : decode c_M_keep 77 = .ok (.iaload, 1) := by decide +kernel
theorem d_M_keep_78 : decode c_M_keep 78 = .ok (.iconst 1, 1) := by decide +kernel
theorem d_M_keep_79 : decode c_M_keep 79 = .ok (.isub, 1) := by decide +kernel
theorem d_M_keep_80 : decode c_M_keep 80 = .ok (.iastore, 1) := by decide +kernel
theorem d_M_keep_81 : decode c_M_keep 81 = .ok (.aload_n 0, 1) := by decide +kernel
theorem d_M_keep_82 : decode c_M_keep 82 = .ok (.aload_n 0, 1) := by decide +kernel
theorem d_M_keep_83 : decode c_M_keep 83 = .ok (.iload_n 1, 1) := by decide +kernel
theorem d_M_keep_84 : decode c_M_keep 84 = .ok (.iconst 0, 1) := by decide +kernel
theorem d_M_keep_85 : decode c_M_keep 85 = .ok (.invokevirtual 56, 3) := by decide +kernel
theorem d_M_keep_88 : decode c_M_keep 88 = .ok (.bipush 32, 2) := by decide +kernel
theorem d_M_keep_90 : decode c_M_keep 90 = .ok (.iadd, 1) := by decide +kernel
theorem d_M_keep_91 : decode c_M_keep 91 = .ok (.aload_n 0, 1) := by decide +kernel
theorem d_M_keep_92 : decode c_M_keep 92 = .ok (.iload_n 1, 1) := by decide +kernel
theorem d_M_keep_93 : decode c_M_keep 93 = .ok (.iconst 0, 1) := by decide +kernel
theorem d_M_keep_94 : decode c_M_keep 94 = .ok (.invokevirtual 56, 3) := by decide +kernel
theorem d_M_keep_97 : decode c_M_keep 97 = .ok (.invokevirtual 69, 3) := by decide +kernel
theorem d_M_keep_100 : decode c_M_keep 100 = .ok (.return_, 1) := by decide +kernel
theorem d_M_done_0 : decode c_M_done 0 = .ok (.aload_n 0, 1) := by decide +kernel
theorem d_M_done_1 : decode c_M_done 1 = .ok (.iconst 0, 1) := by decide +kernel
theorem d_M_done_2 : decode c_M_done 2 = .ok (.putfield 36, 3) := by decide +kernel
theorem d_M_done_5 : decode c_M_done 5 = .ok (.aload_n 0, 1) := by decide +kernel
theorem d_M_done_6 : decode c_M_done 6 = .ok (.iload_n 1, 1) := by decide +kernel
theorem d_M_done_7 : decode c_M_done 7 = .ok (.invokestatic 48, 3) := by decide +kernel
theorem d_M_done_10 : decode c_M_done 10 = .ok (.ifCond .ne 7, 3) := by decide +kernel
theorem d_M_done_13 : decode c_M_done 13 = .ok (.iconst 1, 1) := by decide +kernel
theorem d_M_done_14 : decode c_M_done 14 = .ok (.goto 4, 3) := by decide +kernel
theorem d_M_done_17 : decode c_M_done 17 = .ok (.iconst 0, 1) := by decide +kernel
theorem d_M_done_18 : decode c_M_done 18 = .ok (.iconst 1, 1) := by decide +kernel
theorem d_M_done_19 : decode c_M_done 19 = .ok (.invokevirtual 52, 3) := by decide +kernel
theorem d_M_done_22 : decode c_M_done 22 = .ok (.ifCond .ne 25, 3) := by decide +kernel
theorem d_M_done_25 : decode c_M_done 25 = .ok (.aload_n 0, 1) := by decide +kernel
theorem d_M_done_26 : decode c_M_done 26 = .ok (.aload_n 0, 1) := by decide +kernel
theorem d_M_done_27 : decode c_M_done 27 = .ok (.getfield 33, 3) := by decide +kernel
theorem d_M_done_30 : decode c_M_done 30 = .ok (.iload_n 1, 1) := by decide +kernel
theorem d_M_done_31 : decode c_M_done 31 = .ok (.baload, 1) := by decide +kernel
theorem d_M_done_32 : decode c_M_done 32 = .ok (.ifCond .ne 7, 3) := by decide +kernel
theorem d_M_done_35 : decode c_M_done 35 = .ok (.iconst 1, 1) := by decide +kernel
theorem d_M_done_36 : decode c_M_done 36 = .ok (.goto 4, 3) := by decide +kernel
theorem d_M_done_39 : decode c_M_done 39 = .ok (.iconst 0, 1) := by decide +kernel
theorem d_M_done_40 : decode c_M_done 40 = .ok (.iconst 2, 1) := by decide +kernel
theorem d_M_done_41 : decode c_M_done 41 = .ok (.invokevirtual 52, 3) := by decide +kernel
theorem d_M_done_44 : decode c_M_done 44 = .ok (.ifCond .eq 5, 3) := by decide +kernel
theorem d_M_done_47 : decode c_M_done 47 = .ok (.iconst 0, 1) := by decide +kernel
theorem d_M_done_48 : decode c_M_done 48 = .ok (.ireturn, 1) := by decide +kernel
theorem d_M_done_49 : decode c_M_done 49 = .ok (.aload_n 0, 1) := by decide +kernel
theorem d_M_done_50 : decode c_M_done 50 = .ok (.getfield 33, 3) := by decide +kernel
theorem d_M_done_53 : decode c_M_done 53 = .ok (.iload_n 1, 1) := by decide +kernel
theorem d_M_done_54 : decode c_M_done 54 = .ok (.iconst 0, 1) := by decide +kernel
theorem d_M_done_55 : decode c_M_done 55 = .ok (.bastore, 1) := by decide +kernel
theorem d_M_done_56 : decode c_M_done 56 = .ok (.aload_n 0, 1) := by decide +kernel
theorem d_M_done_57 : decode c_M_done 57 = .ok (.iload_n 1, 1) := by decide +kernel
theorem d_M_done_58 : decode c_M_done 58 = .ok (.invokevirtual 63, 3) := by decide +kernel
theorem d_M_done_61 : decode c_M_done 61 = .ok (.ifCond .eq 15, 3) := by decide +kernel
theorem d_M_done_64 : decode c_M_done 64 = .ok (.aload_n 0, 1) := by decide +kernel
theorem d_M_done_65 : decode c_M_done 65 = .ok (.dup, 1) := by decide +kernel
theorem d_M_done_66 : decode c_M_done 66 = .ok (.getfield 66, 3) := by decide +kernel
theorem d_M_done_69 : decode c_M_done 69 = .ok (.iconst 1, 1) := by decide +kernel
theorem d_M_done_70 : decode c_M_done 70 = .ok (.iadd, 1) := by decide +kernel
theorem d_M_done_71 : decode c_M_done 71 = .ok (.putfield 66, 3) := by decide +kernel
theorem d_M_done_74 : decode c_M_done 74 = .ok (.iconst 0, 1) := by decide +kernel
theorem d_M_done_75 : decode c_M_done 75 = .ok (.ireturn, 1) := by decide +kernel
theorem d_M_done_76 : decode c_M_done 76 = .ok (.iconst 0, 1) := by decide +kernel
theorem d_M_done_77 : decode c_M_done 77 = .ok (.istore_n 2, 1) := by decide +kernel
theorem d_M_done_78 : decode c_M_done 78 = .ok (.iload_n 2, 1) := by decide +kernel
theorem d_M_done_79 : decode c_M_done 79 = .ok (.bipush 32, 2) := by decide +kernel
theorem d_M_done_81 : decode c_M_done 81 = .ok (.if_icmp .ge 39, 3) := by decide +kernel
theorem d_M_done_84 : decode c_M_done 84 = .ok (.aload_n 0, 1) := by decide +kernel
theorem d_M_done_85 : decode c_M_done 85 = .ok (.getfield 26, 3) := by decide +kernel
theorem d_M_done_88 : decode c_M_done 88 = .ok (.aload_n 0, 1) := by decide +kernel
theorem d_M_done_89 : decode c_M_done 89 = .ok (.iload_n 1, 1) := by decide +kernel
theorem d_M_done_90 : decode c_M_done 90 = .ok (.iload_n 2, 1) := by decide +kernel
theorem d_M_done_91 : decode c_M_done 91 = .ok (.invokevirtual 56, 3) := by decide +kernel
theorem d_M_done_94 : decode c_M_done 94 = .ok (.baload, 1) := by decide +kernel
theorem d_M_done_95 : decode c_M_done 95 = .ok (.ifCond .eq 19, 3) := by decide +kernel
theorem d_M_done_98 : decode c_M_done 98 = .ok (.aload_n 0, 1) := by decide +kernel
theorem d_M_done_99 : decode c_M_done 99 = .ok (.iload_n 2, 1) := by decide +kernel
theorem d_M_done_100 : decode c_M_done 100 = .ok (.aload_n 0, 1) := by decide +kernel
theorem d_M_done_101 : decode c_M_done 101 = .ok (.getfield 13, 3) := by decide +kernel
theorem d_M_done_104 : decode c_M_done 104 = .ok (.aload_n 0, 1) := by decide +kernel
theorem d_M_done_105 : decode c_M_done 105 = .ok (.iload_n 1, 1) := by decide +kernel
theorem d_M_done_106 : decode c_M_done 106 = .ok (.iload_n 2, 1) := by decide +kernel
theorem d_M_done_107 : decode c_M_done 107 = .ok (.invokevirtual 56, 3) := by decide +kernel
theorem d_M_done_110 : decode c_M_done 110 = .ok (.laload, 1) := by decide +kernel
theorem d_M_done_111 : decode c_M_done 111 = .ok (.invokevirtual 73, 3) := by decide +kernel
theorem d_M_done_114 : decode c_M_done 114 = .ok (.iinc 2 1, 3) := by decide +kernel
theorem d_M_done_117 : decode c_M_done 117 = .ok (.goto (-39), 3) := by decide +kernel
theorem d_M_done_120 : decode c_M_done 120 = .ok (.aload_n 0, 1) := by decide +kernel
theorem d_M_done_121 : decode c_M_done 121 = .ok (.dup, 1) := by decide +kernel
theorem d_M_done_122 : decode c_M_done 122 = .ok (.getfield 77, 3) := by decide +kernel
theorem d_M_done_125 : decode c_M_done 125 = .ok (.iconst 1, 1) := by decide +kernel
theorem d_M_done_126 : decode c_M_done 126 = .ok (.iadd, 1) := by decide +kernel
theorem d_M_done_127 : decode c_M_done 127 = .ok (.putfield 77, 3) := by decide +kernel
theorem d_M_done_130 : decode c_M_done 130 = .ok (.iconst 1, 1) := by decide +kernel
theorem d_M_done_131 : decode c_M_done 131 = .ok (.ireturn, 1) := by decide +kernel
theorem d_M_change_0 : decode c_M_change 0 = .ok (.aload_n 0, 1) := by decide +kernel
theorem d_M_change_1 : decode c_M_change 1 = .ok (.getfield 9, 3) := by decide +kernel
theorem d_M_change_4 : decode c_M_change 4 = .ok (.iload_n 1, 1) := by decide +kernel
theorem d_M_change_5 : decode c_M_change 5 = .ok (.lload_n 2, 1) := by decide +kernel
theorem d_M_change_6 : decode c_M_change 6 = .ok (.lastore, 1) := by decide +kernel
theorem d_M_change_7 : decode c_M_change 7 = .ok (.aload_n 0, 1) := by decide +kernel
theorem d_M_change_8 : decode c_M_change 8 = .ok (.getfield 16, 3) := by decide +kernel
theorem d_M_change_11 : decode c_M_change 11 = .ok (.iload_n 1, 1) := by decide +kernel
theorem d_M_change_12 : decode c_M_change 12 = .ok (.dup2, 1) := by decide +kernel
theorem d_M_change_13 : decode c_M_change 13 = .ok (.iaload, 1) := by decide +kernel
theorem d_M_change_14 : decode c_M_change 14 = .ok (.iconst 1, 1) := by decide +kernel
theorem d_M_change_15 : decode c_M_change 15 = .ok (.iadd, 1) := by decide +kernel
theorem d_M_change_16 : decode c_M_change 16 = .ok (.iastore, 1) := by decide +kernel
theorem d_M_change_17 : decode c_M_change 17 = .ok (.return_, 1) := by decide +kernel
theorem d_M_leave_0 : decode c_M_leave 0 = .ok (.aload_n 0, 1) := by decide +kernel
theorem d_M_leave_1 : decode c_M_leave 1 = .ok (.iconst 0, 1) := by decide +kernel
theorem d_M_leave_2 : decode c_M_leave 2 = .ok (.putfield 36, 3) := by decide +kernel
theorem d_M_leave_5 : decode c_M_leave 5 = .ok (.aload_n 0, 1) := by decide +kernel
theorem d_M_leave_6 : decode c_M_leave 6 = .ok (.iload_n 1, 1) := by decide +kernel
theorem d_M_leave_7 : decode c_M_leave 7 = .ok (.invokestatic 48, 3) := by decide +kernel
theorem d_M_leave_10 : decode c_M_leave 10 = .ok (.ifCond .ne 7, 3) := by decide +kernel
theorem d_M_leave_13 : decode c_M_leave 13 = .ok (.iconst 1, 1) := by decide +kernel
theorem d_M_leave_14 : decode c_M_leave 14 = .ok (.goto 4, 3) := by decide +kernel
theorem d_M_leave_17 : decode c_M_leave 17 = .ok (.iconst 0, 1) := by decide +kernel
theorem d_M_leave_18 : decode c_M_leave 18 = .ok (.iconst 1, 1) := by decide +kernel
theorem d_M_leave_19 : decode c_M_leave 19 = .ok (.invokevirtual 52, 3) := by decide +kernel
theorem d_M_leave_22 : decode c_M_leave 22 = .ok (.ifCond .ne 25, 3) := by decide +kernel
theorem d_M_leave_25 : decode c_M_leave 25 = .ok (.aload_n 0, 1) := by decide +kernel
theorem d_M_leave_26 : decode c_M_leave 26 = .ok (.aload_n 0, 1) := by decide +kernel
theorem d_M_leave_27 : decode c_M_leave 27 = .ok (.getfield 33, 3) := by decide +kernel
theorem d_M_leave_30 : decode c_M_leave 30 = .ok (.iload_n 1, 1) := by decide +kernel
theorem d_M_leave_31 : decode c_M_leave 31 = .ok (.baload, 1) := by decide +kernel
theorem d_M_leave_32 : decode c_M_leave 32 = .ok (.ifCond .ne 7, 3) := by decide +kernel
theorem d_M_leave_35 : decode c_M_leave 35 = .ok (.iconst 1, 1) := by decide +kernel
theorem d_M_leave_36 : decode c_M_leave 36 = .ok (.goto 4, 3) := by decide +kernel
theorem d_M_leave_39 : decode c_M_leave 39 = .ok (.iconst 0, 1) := by decide +kernel
theorem d_M_leave_40 : decode c_M_leave 40 = .ok (.iconst 2, 1) := by decide +kernel
theorem d_M_leave_41 : decode c_M_leave 41 = .ok (.invokevirtual 52, 3) := by decide +kernel
theorem d_M_leave_44 : decode c_M_leave 44 = .ok (.ifCond .eq 4, 3) := by decide +kernel
theorem d_M_leave_47 : decode c_M_leave 47 = .ok (.return_, 1) := by decide +kernel
theorem d_M_leave_48 : decode c_M_leave 48 = .ok (.aload_n 0, 1) := by decide +kernel
theorem d_M_leave_49 : decode c_M_leave 49 = .ok (.getfield 33, 3) := by decide +kernel
theorem d_M_leave_52 : decode c_M_leave 52 = .ok (.iload_n 1, 1) := by decide +kernel
theorem d_M_leave_53 : decode c_M_leave 53 = .ok (.iconst 0, 1) := by decide +kernel
theorem d_M_leave_54 : decode c_M_leave 54 = .ok (.bastore, 1) := by decide +kernel
theorem d_M_leave_55 : decode c_M_leave 55 = .ok (.return_, 1) := by decide +kernel
theorem d_M_set_0 : decode c_M_set 0 = .ok (.aload_n 0, 1) := by decide +kernel
theorem d_M_set_1 : decode c_M_set 1 = .ok (.iconst 0, 1) := by decide +kernel
theorem d_M_set_2 : decode c_M_set 2 = .ok (.putfield 36, 3) := by decide +kernel
theorem d_M_set_5 : decode c_M_set 5 = .ok (.aload_n 0, 1) := by decide +kernel
theorem d_M_set_6 : decode c_M_set 6 = .ok (.iload_n 1, 1) := by decide +kernel
theorem d_M_set_7 : decode c_M_set 7 = .ok (.invokestatic 60, 3) := by decide +kernel
theorem d_M_set_10 : decode c_M_set 10 = .ok (.ifCond .ne 7, 3) := by decide +kernel
theorem d_M_set_13 : decode c_M_set 13 = .ok (.iconst 1, 1) := by decide +kernel
theorem d_M_set_14 : decode c_M_set 14 = .ok (.goto 4, 3) := by decide +kernel
theorem d_M_set_17 : decode c_M_set 17 = .ok (.iconst 0, 1) := by decide +kernel
theorem d_M_set_18 : decode c_M_set 18 = .ok (.iconst 1, 1) := by decide +kernel
theorem d_M_set_19 : decode c_M_set 19 = .ok (.invokevirtual 52, 3) := by decide +kernel
theorem d_M_set_22 : decode c_M_set 22 = .ok (.ifCond .eq 4, 3) := by decide +kernel
theorem d_M_set_25 : decode c_M_set 25 = .ok (.return_, 1) := by decide +kernel
theorem d_M_set_26 : decode c_M_set 26 = .ok (.aload_n 0, 1) := by decide +kernel
theorem d_M_set_27 : decode c_M_set 27 = .ok (.iload_n 1, 1) := by decide +kernel
theorem d_M_set_28 : decode c_M_set 28 = .ok (.lload_n 2, 1) := by decide +kernel
theorem d_M_set_29 : decode c_M_set 29 = .ok (.invokevirtual 73, 3) := by decide +kernel
theorem d_M_set_32 : decode c_M_set 32 = .ok (.return_, 1) := by decide +kernel
theorem d_M_cell_0 : decode c_M_cell 0 = .ok (.aload_n 0, 1) := by decide +kernel
theorem d_M_cell_1 : decode c_M_cell 1 = .ok (.iconst 0, 1) := by decide +kernel
theorem d_M_cell_2 : decode c_M_cell 2 = .ok (.putfield 36, 3) := by decide +kernel
theorem d_M_cell_5 : decode c_M_cell 5 = .ok (.aload_n 0, 1) := by decide +kernel
theorem d_M_cell_6 : decode c_M_cell 6 = .ok (.iload_n 1, 1) := by decide +kernel
theorem d_M_cell_7 : decode c_M_cell 7 = .ok (.invokestatic 60, 3) := by decide +kernel
theorem d_M_cell_10 : decode c_M_cell 10 = .ok (.ifCond .ne 7, 3) := by decide +kernel
theorem d_M_cell_13 : decode c_M_cell 13 = .ok (.iconst 1, 1) := by decide +kernel
theorem d_M_cell_14 : decode c_M_cell 14 = .ok (.goto 4, 3) := by decide +kernel
theorem d_M_cell_17 : decode c_M_cell 17 = .ok (.iconst 0, 1) := by decide +kernel
theorem d_M_cell_18 : decode c_M_cell 18 = .ok (.iconst 1, 1) := by decide +kernel
theorem d_M_cell_19 : decode c_M_cell 19 = .ok (.invokevirtual 52, 3) := by decide +kernel
theorem d_M_cell_22 : decode c_M_cell 22 = .ok (.ifCond .eq 7, 3) := by decide +kernel
theorem d_M_cell_25 : decode c_M_cell 25 = .ok (.lconst 0, 1) := by decide +kernel
theorem d_M_cell_26 : decode c_M_cell 26 = .ok (.goto 9, 3) := by decide +kernel
theorem d_M_cell_29 : decode c_M_cell 29 = .ok (.aload_n 0, 1) := by decide +kernel
theorem d_M_cell_30 : decode c_M_cell 30 = .ok (.getfield 9, 3) := by decide +kernel
theorem d_M_cell_33 : decode c_M_cell 33 = .ok (.iload_n 1, 1) := by decide +kernel
theorem d_M_cell_34 : decode c_M_cell 34 = .ok (.laload, 1) := by decide +kernel
theorem d_M_cell_35 : decode c_M_cell 35 = .ok (.lreturn, 1) := by decide +kernel
theorem d_M_changed_0 : decode c_M_changed 0 = .ok (.aload_n 0, 1) := by decide +kernel
theorem d_M_changed_1 : decode c_M_changed 1 = .ok (.iconst 0, 1) := by decide +kernel
theorem d_M_changed_2 : decode c_M_changed 2 = .ok (.putfield 36, 3) := by decide +kernel
theorem d_M_changed_5 : decode c_M_changed 5 = .ok (.aload_n 0, 1) := by decide +kernel
theorem d_M_changed_6 : decode c_M_changed 6 = .ok (.iload_n 1, 1) := by decide +kernel
theorem d_M_changed_7 : decode c_M_changed 7 = .ok (.invokestatic 60, 3) := by decide +kernel
theorem d_M_changed_10 : decode c_M_changed 10 = .ok (.ifCond .ne 7, 3) := by decide +kernel
theorem d_M_changed_13 : decode c_M_changed 13 = .ok (.iconst 1, 1) := by decide +kernel
theorem d_M_changed_14 : decode c_M_changed 14 = .ok (.goto 4, 3) := by decide +kernel
theorem d_M_changed_17 : decode c_M_changed 17 = .ok (.iconst 0, 1) := by decide +kernel
theorem d_M_changed_18 : decode c_M_changed 18 = .ok (.iconst 1, 1) := by decide +kernel
theorem d_M_changed_19 : decode c_M_changed 19 = .ok (.invokevirtual 52, 3) := by decide +kernel
theorem d_M_changed_22 : decode c_M_changed 22 = .ok (.ifCond .eq 7, 3) := by decide +kernel
theorem d_M_changed_25 : decode c_M_changed 25 = .ok (.iconst 0, 1) := by decide +kernel
theorem d_M_changed_26 : decode c_M_changed 26 = .ok (.goto 9, 3) := by decide +kernel
theorem d_M_changed_29 : decode c_M_changed 29 = .ok (.aload_n 0, 1) := by decide +kernel
theorem d_M_changed_30 : decode c_M_changed 30 = .ok (.getfield 16, 3) := by decide +kernel
theorem d_M_changed_33 : decode c_M_changed 33 = .ok (.iload_n 1, 1) := by decide +kernel
theorem d_M_changed_34 : decode c_M_changed 34 = .ok (.iaload, 1) := by decide +kernel
theorem d_M_changed_35 : decode c_M_changed 35 = .ok (.ireturn, 1) := by decide +kernel
theorem d_M_count_0 : decode c_M_count 0 = .ok (.aload_n 0, 1) := by decide +kernel
theorem d_M_count_1 : decode c_M_count 1 = .ok (.iconst 0, 1) := by decide +kernel
theorem d_M_count_2 : decode c_M_count 2 = .ok (.putfield 36, 3) := by decide +kernel
theorem d_M_count_5 : decode c_M_count 5 = .ok (.aload_n 0, 1) := by decide +kernel
theorem d_M_count_6 : decode c_M_count 6 = .ok (.iload_n 1, 1) := by decide +kernel
theorem d_M_count_7 : decode c_M_count 7 = .ok (.invokestatic 48, 3) := by decide +kernel
theorem d_M_count_10 : decode c_M_count 10 = .ok (.ifCond .eq 15, 3) := by decide +kernel
theorem d_M_count_13 : decode c_M_count 13 = .ok (.iload_n 2, 1) := by decide +kernel
theorem d_M_count_14 : decode c_M_count 14 = .ok (.i2l, 1) := by decide +kernel
theorem d_M_count_15 : decode c_M_count 15 = .ok (.lconst 0, 1) := by decide +kernel
theorem d_M_count_16 : decode c_M_count 16 = .ok (.ldc2_w 80, 3) := by decide +kernel
theorem d_M_count_19 : decode c_M_count 19 = .ok (.invokestatic 42, 3) := by decide +kernel
theorem d_M_count_22 : decode c_M_count 22 = .ok (.ifCond .ne 7, 3) := by decide +kernel
theorem d_M_count_25 : decode c_M_count 25 = .ok (.iconst 1, 1) := by decide +kernel
theorem d_M_count_26 : decode c_M_count 26 = .ok (.goto 4, 3) := by decide +kernel
theorem d_M_count_29 : decode c_M_count 29 = .ok (.iconst 0, 1) := by decide +kernel
theorem d_M_count_30 : decode c_M_count 30 = .ok (.iconst 1, 1) := by decide +kernel
theorem d_M_count_31 : decode c_M_count 31 = .ok (.invokevirtual 52, 3) := by decide +kernel
theorem d_M_count_34 : decode c_M_count 34 = .ok (.ifCond .ne 25, 3) := by decide +kernel
theorem d_M_count_37 : decode c_M_count 37 = .ok (.aload_n 0, 1) := by decide +kernel
theorem d_M_count_38 : decode c_M_count 38 = .ok (.aload_n 0, 1) := by decide +kernel
theorem d_M_count_39 : decode c_M_count 39 = .ok (.getfield 33, 3) := by decide +kernel
theorem d_M_count_42 : decode c_M_count 42 = .ok (.iload_n 1, 1) := by decide +kernel
theorem d_M_count_43 : decode c_M_count 43 = .ok (.baload, 1) := by decide +kernel
theorem d_M_count_44 : decode c_M_count 44 = .ok (.ifCond .ne 7, 3) := by decide +kernel
theorem d_M_count_47 : decode c_M_count 47 = .ok (.iconst 1, 1) := by decide +kernel
theorem d_M_count_48 : decode c_M_count 48 = .ok (.goto 4, 3) := by decide +kernel
theorem d_M_count_51 : decode c_M_count 51 = .ok (.iconst 0, 1) := by decide +kernel
theorem d_M_count_52 : decode c_M_count 52 = .ok (.iconst 2, 1) := by decide +kernel
theorem d_M_count_53 : decode c_M_count 53 = .ok (.invokevirtual 52, 3) := by decide +kernel
theorem d_M_count_56 : decode c_M_count 56 = .ok (.ifCond .eq 5, 3) := by decide +kernel
theorem d_M_count_59 : decode c_M_count 59 = .ok (.iconst 0, 1) := by decide +kernel
theorem d_M_count_60 : decode c_M_count 60 = .ok (.ireturn, 1) := by decide +kernel
theorem d_M_count_61 : decode c_M_count 61 = .ok (.iconst 0, 1) := by decide +kernel
theorem d_M_count_62 : decode c_M_count 62 = .ok (.istore_n 3, 1) := by decide +kernel
theorem d_M_count_63 : decode c_M_count 63 = .ok (.iconst 0, 1) := by decide +kernel
theorem d_M_count_64 : decode c_M_count 64 = .ok (.istore 4, 2) := by decide +kernel
theorem d_M_count_66 : decode c_M_count 66 = .ok (.iload 4, 2) := by decide +kernel
theorem d_M_count_68 : decode c_M_count 68 = .ok (.bipush 32, 2) := by decide +kernel
theorem d_M_count_70 : decode c_M_count 70 = .ok (.if_icmp .ge 54, 3) := by decide +kernel
theorem d_M_count_73 : decode c_M_count 73 = .ok (.iload_n 2, 1) := by decide +kernel
theorem d_M_count_74 : decode c_M_count 74 = .ok (.ifCond .ne 21, 3) := by decide +kernel
theorem d_M_count_77 : decode c_M_count 77 = .ok (.aload_n 0, 1) := by decide +kernel
theorem d_M_count_78 : decode c_M_count 78 = .ok (.getfield 30, 3) := by decide +kernel
theorem d_M_count_81 : decode c_M_count 81 = .ok (.bipush 32, 2) := by decide +kernel
theorem d_M_count_83 : decode c_M_count 83 = .ok (.iload_n 1, 1) := by decide +kernel
theorem d_M_count_84 : decode c_M_count 84 = .ok (.imul, 1) := by decide +kernel
theorem d_M_count_85 : decode c_M_count 85 = .ok (.iload 4, 2) := by decide +kernel
theorem d_M_count_87 : decode c_M_count 87 = .ok (.iadd, 1) := by decide +kernel
theorem d_M_count_88 : decode c_M_count 88 = .ok (.baload, 1) := by decide +kernel
theorem d_M_count_89 : decode c_M_count 89 = .ok (.ifCond .eq 29, 3) := by decide +kernel
theorem d_M_count_92 : decode c_M_count 92 = .ok (.goto 23, 3) := by decide +kernel
theorem d_M_count_95 : decode c_M_count 95 = .ok (.iload_n 2, 1) := by decide +kernel
theorem d_M_count_96 : decode c_M_count 96 = .ok (.iconst 1, 1) := by decide +kernel
theorem d_M_count_97 : decode c_M_count 97 = .ok (.if_icmp .ne 21, 3) := by decide +kernel
theorem d_M_count_100 : decode c_M_count 100 = .ok (.aload_n 0, 1) := by decide +kernel
theorem d_M_count_101 : decode c_M_count 101 = .ok (.getfield 26, 3) := by decide +kernel
theorem d_M_count_104 : decode c_M_count 104 = .ok (.aload_n 0, 1) := by decide +kernel
theorem d_M_count_105 : decode c_M_count 105 = .ok (.iload_n 1, 1) := by decide +kernel
theorem d_M_count_106 : decode c_M_count 106 = .ok (.iload 4, 2) := by decide +kernel
theorem d_M_count_108 : decode c_M_count 108 = .ok (.invokevirtual 56, 3) := by decide +kernel
theorem d_M_count_111 : decode c_M_count 111 = .ok (.baload, 1) := by decide +kernel
theorem d_M_count_112 : decode c_M_count 112 = .ok (.ifCond .eq 6, 3) := by decide +kernel
theorem d_M_count_115 : decode c_M_count 115 = .ok (.iinc 3 1, 3) := by decide +kernel
theorem d_M_count_118 : decode c_M_count 118 = .ok (.iinc 4 1, 3) := by decide +kernel
theorem d_M_count_121 : decode c_M_count 121 = .ok (.goto (-55), 3) := by decide +kernel
theorem d_M_count_124 : decode c_M_count 124 = .ok (.iload_n 2, 1) := by decide +kernel
theorem d_M_count_125 : decode c_M_count 125 = .ok (.iconst 2, 1) := by decide +kernel
theorem d_M_count_126 : decode c_M_count 126 = .ok (.if_icmp .ge 7, 3) := by decide +kernel
theorem d_M_count_129 : decode c_M_count 129 = .ok (.iload_n 3, 1) := by decide +kernel
theorem d_M_count_130 : decode c_M_count 130 = .ok (.goto 30, 3) := by decide +kernel
theorem d_M_count_133 : decode c_M_count 133 = .ok (.iload_n 2, 1) := by decide +kernel
theorem d_M_count_134 : decode c_M_count 134 = .ok (.iconst 2, 1) := by decide +kernel
theorem d_M_count_135 : decode c_M_count 135 = .ok (.if_icmp .ne 12, 3) := by decide +kernel
theorem d_M_count_138 : decode c_M_count 138 = .ok (.aload_n 0, 1) := by decide +kernel
theorem d_M_count_139 : decode c_M_count 139 = .ok (.getfield 20, 3) := by decide +kernel
theorem d_M_count_142 : decode c_M_count 142 = .ok (.iload_n 1, 1) := by decide +kernel
theorem d_M_count_143 : decode c_M_count 143 = .ok (.iaload, 1) := by decide +kernel
theorem d_M_count_144 : decode c_M_count 144 = .ok (.goto 16, 3) := by decide +kernel
theorem d_M_count_147 : decode c_M_count 147 = .ok (.aload_n 0, 1) := by decide +kernel
theorem d_M_count_148 : decode c_M_count 148 = .ok (.iload_n 1, 1) := by decide +kernel
theorem d_M_count_149 : decode c_M_count 149 = .ok (.invokevirtual 63, 3) := by decide +kernel
theorem d_M_count_152 : decode c_M_count 152 = .ok (.ifCond .eq 7, 3) := by decide +kernel
theorem d_M_count_155 : decode c_M_count 155 = .ok (.iconst 1, 1) := by decide +kernel
theorem d_M_count_156 : decode c_M_count 156 = .ok (.goto 4, 3) := by decide +kernel
theorem d_M_count_159 : decode c_M_count 159 = .ok (.iconst 0, 1) := by decide +kernel
theorem d_M_count_160 : decode c_M_count 160 = .ok (.ireturn, 1) := by decide +kernel
theorem d_M_all_0 : decode c_M_all 0 = .ok (.aload_n 0, 1) := by decide +kernel
theorem d_M_all_1 : decode c_M_all 1 = .ok (.iconst 0, 1) := by decide +kernel
theorem d_M_all_2 : decode c_M_all 2 = .ok (.putfield 36, 3) := by decide +kernel
theorem d_M_all_5 : decode c_M_all 5 = .ok (.aload_n 0, 1) := by decide +kernel
theorem d_M_all_6 : decode c_M_all 6 = .ok (.iload_n 1, 1) := by decide +kernel
theorem d_M_all_7 : decode c_M_all 7 = .ok (.i2l, 1) := by decide +kernel
theorem d_M_all_8 : decode c_M_all 8 = .ok (.lconst 0, 1) := by decide +kernel
theorem d_M_all_9 : decode c_M_all 9 = .ok (.ldc2_w 82, 3) := by decide +kernel
theorem d_M_all_12 : decode c_M_all 12 = .ok (.invokestatic 42, 3) := by decide +kernel
theorem d_M_all_15 : decode c_M_all 15 = .ok (.ifCond .ne 7, 3) := by decide +kernel
theorem d_M_all_18 : decode c_M_all 18 = .ok (.iconst 1, 1) := by decide +kernel
theorem d_M_all_19 : decode c_M_all 19 = .ok (.goto 4, 3) := by decide +kernel
theorem d_M_all_22 : decode c_M_all 22 = .ok (.iconst 0, 1) := by decide +kernel
theorem d_M_all_23 : decode c_M_all 23 = .ok (.iconst 1, 1) := by decide +kernel
theorem d_M_all_24 : decode c_M_all 24 = .ok (.invokevirtual 52, 3) := by decide +kernel
theorem d_M_all_27 : decode c_M_all 27 = .ok (.ifCond .eq 5, 3) := by decide +kernel
theorem d_M_all_30 : decode c_M_all 30 = .ok (.iconst 0, 1) := by decide +kernel
theorem d_M_all_31 : decode c_M_all 31 = .ok (.ireturn, 1) := by decide +kernel
theorem d_M_all_32 : decode c_M_all 32 = .ok (.iconst 0, 1) := by decide +kernel
theorem d_M_all_33 : decode c_M_all 33 = .ok (.istore_n 2, 1) := by decide +kernel
theorem d_M_all_34 : decode c_M_all 34 = .ok (.iconst 0, 1) := by decide +kernel
theorem d_M_all_35 : decode c_M_all 35 = .ok (.istore_n 3, 1) := by decide +kernel
theorem d_M_all_36 : decode c_M_all 36 = .ok (.iload_n 3, 1) := by decide +kernel
theorem d_M_all_37 : decode c_M_all 37 = .ok (.bipush 8, 2) := by decide +kernel
theorem d_M_all_39 : decode c_M_all 39 = .ok (.if_icmp .ge 21, 3) := by decide +kernel
theorem d_M_all_42 : decode c_M_all 42 = .ok (.aload_n 0, 1) := by decide +kernel
theorem d_M_all_43 : decode c_M_all 43 = .ok (.getfield 33, 3) := by decide +kernel
theorem d_M_all_46 : decode c_M_all 46 = .ok (.iload_n 3, 1) := by decide +kernel
theorem d_M_all_47 : decode c_M_all 47 = .ok (.baload, 1) := by decide +kernel
theorem d_M_all_48 : decode c_M_all 48 = .ok (.ifCond .eq 6, 3) := by decide +kernel
theorem d_M_all_51 : decode c_M_all 51 = .ok (.iinc 2 1, 3) := by decide +kernel
theorem d_M_all_54 : decode c_M_all 54 = .ok (.iinc 3 1, 3) := by decide +kernel
theorem d_M_all_57 : decode c_M_all 57 = .ok (.goto (-21), 3) := by decide +kernel
theorem d_M_all_60 : decode c_M_all 60 = .ok (.iload_n 1, 1) := by decide +kernel
theorem d_M_all_61 : decode c_M_all 61 = .ok (.ifCond .ne 7, 3) := by decide +kernel
theorem d_M_all_64 : decode c_M_all 64 = .ok (.iload_n 2, 1) := by decide +kernel
theorem d_M_all_65 : decode c_M_all 65 = .ok (.goto 19, 3) := by decide +kernel
theorem d_M_all_68 : decode c_M_all 68 = .ok (.iload_n 1, 1) := by decide +kernel
theorem d_M_all_69 : decode c_M_all 69 = .ok (.iconst 1, 1) := by decide +kernel
theorem d_M_all_70 : decode c_M_all 70 = .ok (.if_icmp .ne 10, 3) := by decide +kernel
theorem d_M_all_73 : decode c_M_all 73 = .ok (.aload_n 0, 1) := by decide +kernel
theorem d_M_all_74 : decode c_M_all 74 = .ok (.getfield 77, 3) := by decide +kernel
theorem d_M_all_77 : decode c_M_all 77 = .ok (.goto 7, 3) := by decide +kernel
theorem d_M_all_80 : decode c_M_all 80 = .ok (.aload_n 0, 1) := by decide +kernel
theorem d_M_all_81 : decode c_M_all 81 = .ok (.getfield 66, 3) := by decide +kernel
theorem d_M_all_84 : decode c_M_all 84 = .ok (.ireturn, 1) := by decide +kernel
end
section
/-! What each instruction is: class CommitDeskLaw. -/
theorem d_L_begin_0 : decode c_L_begin 0 = .ok (.aload_n 0, 1) := by decide +kernel
theorem d_L_begin_1 : decode c_L_begin 1 = .ok (.iload_n 1, 1) := by decide +kernel
theorem d_L_begin_2 : decode c_L_begin 2 = .ok (.invokevirtual 7, 3) := by decide +kernel
theorem d_L_begin_5 : decode c_L_begin 5 = .ok (.goto 9, 3) := by decide +kernel
theorem d_L_begin_8 : decode c_L_begin 8 = .ok (.astore_n 2, 1) := by decide +kernel
theorem d_L_begin_9 : decode c_L_begin 9 = .ok (.iconst 1, 1) := by decide +kernel
theorem d_L_begin_10 : decode c_L_begin 10 = .ok (.ireturn, 1) := by decide +kernel
theorem d_L_begin_11 : decode c_L_begin 11 = .ok (.astore_n 2, 1) := by decide +kernel
theorem d_L_begin_12 : decode c_L_begin 12 = .ok (.iconst 2, 1) := by decide +kernel
theorem d_L_begin_13 : decode c_L_begin 13 = .ok (.ireturn, 1) := by decide +kernel
theorem d_L_begin_14 : decode c_L_begin 14 = .ok (.iconst 0, 1) := by decide +kernel
theorem d_L_begin_15 : decode c_L_begin 15 = .ok (.ireturn, 1) := by decide +kernel
theorem d_L_read_0 : decode c_L_read 0 = .ok (.aload_n 3, 1) := by decide +kernel
theorem d_L_read_1 : decode c_L_read 1 = .ok (.iconst 0, 1) := by decide +kernel
theorem d_L_read_2 : decode c_L_read 2 = .ok (.aload_n 0, 1) := by decide +kernel
theorem d_L_read_3 : decode c_L_read 3 = .ok (.iload_n 1, 1) := by decide +kernel
theorem d_L_read_4 : decode c_L_read 4 = .ok (.iload_n 2, 1) := by decide +kernel
theorem d_L_read_5 : decode c_L_read 5 = .ok (.invokevirtual 17, 3) := by decide +kernel
theorem d_L_read_8 : decode c_L_read 8 = .ok (.lastore, 1) := by decide +kernel
theorem d_L_read_9 : decode c_L_read 9 = .ok (.goto 19, 3) := by decide +kernel
theorem d_L_read_12 : decode c_L_read 12 = .ok (.astore 4, 2) := by decide +kernel
theorem d_L_read_14 : decode c_L_read 14 = .ok (.iconst 1, 1) := by decide +kernel
theorem d_L_read_15 : decode c_L_read 15 = .ok (.ireturn, 1) := by decide +kernel
theorem d_L_read_16 : decode c_L_read 16 = .ok (.astore 4, 2) := by decide +kernel
theorem d_L_read_18 : decode c_L_read 18 = .ok (.iconst 2, 1) := by decide +kernel
theorem d_L_read_19 : decode c_L_read 19 = .ok (.ireturn, 1) := by decide +kernel
theorem d_L_read_20 : decode c_L_read 20 = .ok (.astore 4, 2) := by decide +kernel
theorem d_L_read_22 : decode c_L_read 22 = .ok (.iconst 3, 1) := by decide +kernel
theorem d_L_read_23 : decode c_L_read 23 = .ok (.ireturn, 1) := by decide +kernel
theorem d_L_read_24 : decode c_L_read 24 = .ok (.astore 4, 2) := by decide +kernel
theorem d_L_read_26 : decode c_L_read 26 = .ok (.iconst 4, 1) := by decide +kernel
theorem d_L_read_27 : decode c_L_read 27 = .ok (.ireturn, 1) := by decide +kernel
theorem d_L_read_28 : decode c_L_read 28 = .ok (.iconst 0, 1) := by decide +kernel
theorem d_L_read_29 : decode c_L_read 29 = .ok (.ireturn, 1) := by decide +kernel
theorem d_L_write_0 : decode c_L_write 0 = .ok (.aload_n 0, 1) := by decide +kernel
theorem d_L_write_1 : decode c_L_write 1 = .ok (.iload_n 1, 1) := by decide +kernel
theorem d_L_write_2 : decode c_L_write 2 = .ok (.iload_n 2, 1) := by decide +kernel
theorem d_L_write_3 : decode c_L_write 3 = .ok (.lload_n 3, 1) := by decide +kernel
theorem d_L_write_4 : decode c_L_write 4 = .ok (.invokevirtual 25, 3) := by decide +kernel
theorem d_L_write_7 : decode c_L_write 7 = .ok (.goto 15, 3) := by decide +kernel
theorem d_L_write_10 : decode c_L_write 10 = .ok (.astore 5, 2) := by decide +kernel
theorem d_L_write_12 : decode c_L_write 12 = .ok (.iconst 1, 1) := by decide +kernel
theorem d_L_write_13 : decode c_L_write 13 = .ok (.ireturn, 1) := by decide +kernel
theorem d_L_write_14 : decode c_L_write 14 = .ok (.astore 5, 2) := by decide +kernel
theorem d_L_write_16 : decode c_L_write 16 = .ok (.iconst 2, 1) := by decide +kernel
theorem d_L_write_17 : decode c_L_write 17 = .ok (.ireturn, 1) := by decide +kernel
theorem d_L_write_18 : decode c_L_write 18 = .ok (.astore 5, 2) := by decide +kernel
theorem d_L_write_20 : decode c_L_write 20 = .ok (.iconst 3, 1) := by decide +kernel
theorem d_L_write_21 : decode c_L_write 21 = .ok (.ireturn, 1) := by decide +kernel
theorem d_L_write_22 : decode c_L_write 22 = .ok (.iconst 0, 1) := by decide +kernel
theorem d_L_write_23 : decode c_L_write 23 = .ok (.ireturn, 1) := by decide +kernel
theorem d_L_save_0 : decode c_L_save 0 = .ok (.aload_n 2, 1) := by decide +kernel
theorem d_L_save_1 : decode c_L_save 1 = .ok (.iconst 0, 1) := by decide +kernel
theorem d_L_save_2 : decode c_L_save 2 = .ok (.aload_n 0, 1) := by decide +kernel
theorem d_L_save_3 : decode c_L_save 3 = .ok (.iload_n 1, 1) := by decide +kernel
theorem d_L_save_4 : decode c_L_save 4 = .ok (.invokevirtual 29, 3) := by decide +kernel
theorem d_L_save_7 : decode c_L_save 7 = .ok (.i2l, 1) := by decide +kernel
theorem d_L_save_8 : decode c_L_save 8 = .ok (.lastore, 1) := by decide +kernel
theorem d_L_save_9 : decode c_L_save 9 = .ok (.goto 12, 3) := by decide +kernel
theorem d_L_save_12 : decode c_L_save 12 = .ok (.astore_n 3, 1) := by decide +kernel
theorem d_L_save_13 : decode c_L_save 13 = .ok (.iconst 1, 1) := by decide +kernel
theorem d_L_save_14 : decode c_L_save 14 = .ok (.ireturn, 1) := by decide +kernel
theorem d_L_save_15 : decode c_L_save 15 = .ok (.astore_n 3, 1) := by decide +kernel
theorem d_L_save_16 : decode c_L_save 16 = .ok (.iconst 2, 1) := by decide +kernel
theorem d_L_save_17 : decode c_L_save 17 = .ok (.ireturn, 1) := by decide +kernel
theorem d_L_save_18 : decode c_L_save 18 = .ok (.astore_n 3, 1) := by decide +kernel
theorem d_L_save_19 : decode c_L_save 19 = .ok (.iconst 3, 1) := by decide +kernel
theorem d_L_save_20 : decode c_L_save 20 = .ok (.ireturn, 1) := by decide +kernel
theorem d_L_save_21 : decode c_L_save 21 = .ok (.iconst 0, 1) := by decide +kernel
theorem d_L_save_22 : decode c_L_save 22 = .ok (.ireturn, 1) := by decide +kernel
theorem d_L_back_0 : decode c_L_back 0 = .ok (.aload_n 0, 1) := by decide +kernel
theorem d_L_back_1 : decode c_L_back 1 = .ok (.iload_n 1, 1) := by decide +kernel
theorem d_L_back_2 : decode c_L_back 2 = .ok (.invokevirtual 33, 3) := by decide +kernel
theorem d_L_back_5 : decode c_L_back 5 = .ok (.goto 12, 3) := by decide +kernel
theorem d_L_back_8 : decode c_L_back 8 = .ok (.astore_n 2, 1) := by decide +kernel
theorem d_L_back_9 : decode c_L_back 9 = .ok (.iconst 1, 1) := by decide +kernel
theorem d_L_back_10 : decode c_L_back 10 = .ok (.ireturn, 1) := by decide +kernel
theorem d_L_back_11 : decode c_L_back 11 = .ok (.astore_n 2, 1) := by decide +kernel
theorem d_L_back_12 : decode c_L_back 12 = .ok (.iconst 2, 1) := by decide +kernel
theorem d_L_back_13 : decode c_L_back 13 = .ok (.ireturn, 1) := by decide +kernel
theorem d_L_back_14 : decode c_L_back 14 = .ok (.astore_n 2, 1) := by decide +kernel
theorem d_L_back_15 : decode c_L_back 15 = .ok (.iconst 3, 1) := by decide +kernel
theorem d_L_back_16 : decode c_L_back 16 = .ok (.ireturn, 1) := by decide +kernel
theorem d_L_back_17 : decode c_L_back 17 = .ok (.iconst 0, 1) := by decide +kernel
theorem d_L_back_18 : decode c_L_back 18 = .ok (.ireturn, 1) := by decide +kernel
theorem d_L_keep_0 : decode c_L_keep 0 = .ok (.aload_n 0, 1) := by decide +kernel
theorem d_L_keep_1 : decode c_L_keep 1 = .ok (.iload_n 1, 1) := by decide +kernel
theorem d_L_keep_2 : decode c_L_keep 2 = .ok (.invokevirtual 36, 3) := by decide +kernel
theorem d_L_keep_5 : decode c_L_keep 5 = .ok (.goto 12, 3) := by decide +kernel
theorem d_L_keep_8 : decode c_L_keep 8 = .ok (.astore_n 2, 1) := by decide +kernel
theorem d_L_keep_9 : decode c_L_keep 9 = .ok (.iconst 1, 1) := by decide +kernel
theorem d_L_keep_10 : decode c_L_keep 10 = .ok (.ireturn, 1) := by decide +kernel
theorem d_L_keep_11 : decode c_L_keep 11 = .ok (.astore_n 2, 1) := by decide +kernel
theorem d_L_keep_12 : decode c_L_keep 12 = .ok (.iconst 2, 1) := by decide +kernel
theorem d_L_keep_13 : decode c_L_keep 13 = .ok (.ireturn, 1) := by decide +kernel
theorem d_L_keep_14 : decode c_L_keep 14 = .ok (.astore_n 2, 1) := by decide +kernel
theorem d_L_keep_15 : decode c_L_keep 15 = .ok (.iconst 3, 1) := by decide +kernel
theorem d_L_keep_16 : decode c_L_keep 16 = .ok (.ireturn, 1) := by decide +kernel
theorem d_L_keep_17 : decode c_L_keep 17 = .ok (.iconst 0, 1) := by decide +kernel
theorem d_L_keep_18 : decode c_L_keep 18 = .ok (.ireturn, 1) := by decide +kernel
theorem d_L_done_0 : decode c_L_done 0 = .ok (.aload_n 2, 1) := by decide +kernel
theorem d_L_done_1 : decode c_L_done 1 = .ok (.iconst 0, 1) := by decide +kernel
theorem d_L_done_2 : decode c_L_done 2 = .ok (.aload_n 0, 1) := by decide +kernel
theorem d_L_done_3 : decode c_L_done 3 = .ok (.iload_n 1, 1) := by decide +kernel
theorem d_L_done_4 : decode c_L_done 4 = .ok (.invokevirtual 39, 3) := by decide +kernel
theorem d_L_done_7 : decode c_L_done 7 = .ok (.ifCond .eq 7, 3) := by decide +kernel
theorem d_L_done_10 : decode c_L_done 10 = .ok (.lconst 1, 1) := by decide +kernel
theorem d_L_done_11 : decode c_L_done 11 = .ok (.goto 4, 3) := by decide +kernel
theorem d_L_done_14 : decode c_L_done 14 = .ok (.lconst 0, 1) := by decide +kernel
theorem d_L_done_15 : decode c_L_done 15 = .ok (.lastore, 1) := by decide +kernel
theorem d_L_done_16 : decode c_L_done 16 = .ok (.goto 9, 3) := by decide +kernel
theorem d_L_done_19 : decode c_L_done 19 = .ok (.astore_n 3, 1) := by decide +kernel
theorem d_L_done_20 : decode c_L_done 20 = .ok (.iconst 1, 1) := by decide +kernel
theorem d_L_done_21 : decode c_L_done 21 = .ok (.ireturn, 1) := by decide +kernel
theorem d_L_done_22 : decode c_L_done 22 = .ok (.astore_n 3, 1) := by decide +kernel
theorem d_L_done_23 : decode c_L_done 23 = .ok (.iconst 2, 1) := by decide +kernel
theorem d_L_done_24 : decode c_L_done 24 = .ok (.ireturn, 1) := by decide +kernel
theorem d_L_done_25 : decode c_L_done 25 = .ok (.iconst 0, 1) := by decide +kernel
theorem d_L_done_26 : decode c_L_done 26 = .ok (.ireturn, 1) := by decide +kernel
theorem d_L_leave_0 : decode c_L_leave 0 = .ok (.aload_n 0, 1) := by decide +kernel
theorem d_L_leave_1 : decode c_L_leave 1 = .ok (.iload_n 1, 1) := by decide +kernel
theorem d_L_leave_2 : decode c_L_leave 2 = .ok (.invokevirtual 43, 3) := by decide +kernel
theorem d_L_leave_5 : decode c_L_leave 5 = .ok (.goto 9, 3) := by decide +kernel
theorem d_L_leave_8 : decode c_L_leave 8 = .ok (.astore_n 2, 1) := by decide +kernel
theorem d_L_leave_9 : decode c_L_leave 9 = .ok (.iconst 1, 1) := by decide +kernel
theorem d_L_leave_10 : decode c_L_leave 10 = .ok (.ireturn, 1) := by decide +kernel
theorem d_L_leave_11 : decode c_L_leave 11 = .ok (.astore_n 2, 1) := by decide +kernel
theorem d_L_leave_12 : decode c_L_leave 12 = .ok (.iconst 2, 1) := by decide +kernel
theorem d_L_leave_13 : decode c_L_leave 13 = .ok (.ireturn, 1) := by decide +kernel
theorem d_L_leave_14 : decode c_L_leave 14 = .ok (.iconst 0, 1) := by decide +kernel
theorem d_L_leave_15 : decode c_L_leave 15 = .ok (.ireturn, 1) := by decide +kernel
theorem d_L_set_0 : decode c_L_set 0 = .ok (.aload_n 0, 1) := by decide +kernel
theorem d_L_set_1 : decode c_L_set 1 = .ok (.iload_n 1, 1) := by decide +kernel
theorem d_L_set_2 : decode c_L_set 2 = .ok (.lload_n 2, 1) := by decide +kernel
theorem d_L_set_3 : decode c_L_set 3 = .ok (.invokevirtual 46, 3) := by decide +kernel
theorem d_L_set_6 : decode c_L_set 6 = .ok (.goto 7, 3) := by decide +kernel
theorem d_L_set_9 : decode c_L_set 9 = .ok (.astore 4, 2) := by decide +kernel
theorem d_L_set_11 : decode c_L_set 11 = .ok (.iconst 1, 1) := by decide +kernel
theorem d_L_set_12 : decode c_L_set 12 = .ok (.ireturn, 1) := by decide +kernel
theorem d_L_set_13 : decode c_L_set 13 = .ok (.iconst 0, 1) := by decide +kernel
theorem d_L_set_14 : decode c_L_set 14 = .ok (.ireturn, 1) := by decide +kernel
theorem d_L_cell_0 : decode c_L_cell 0 = .ok (.aload_n 2, 1) := by decide +kernel
theorem d_L_cell_1 : decode c_L_cell 1 = .ok (.iconst 0, 1) := by decide +kernel
theorem d_L_cell_2 : decode c_L_cell 2 = .ok (.aload_n 0, 1) := by decide +kernel
theorem d_L_cell_3 : decode c_L_cell 3 = .ok (.iload_n 1, 1) := by decide +kernel
theorem d_L_cell_4 : decode c_L_cell 4 = .ok (.invokevirtual 50, 3) := by decide +kernel
theorem d_L_cell_7 : decode c_L_cell 7 = .ok (.lastore, 1) := by decide +kernel
theorem d_L_cell_8 : decode c_L_cell 8 = .ok (.goto 6, 3) := by decide +kernel
theorem d_L_cell_11 : decode c_L_cell 11 = .ok (.astore_n 3, 1) := by decide +kernel
theorem d_L_cell_12 : decode c_L_cell 12 = .ok (.iconst 1, 1) := by decide +kernel
theorem d_L_cell_13 : decode c_L_cell 13 = .ok (.ireturn, 1) := by decide +kernel
theorem d_L_cell_14 : decode c_L_cell 14 = .ok (.iconst 0, 1) := by decide +kernel
theorem d_L_cell_15 : decode c_L_cell 15 = .ok (.ireturn, 1) := by decide +kernel
theorem d_L_changed_0 : decode c_L_changed 0 = .ok (.aload_n 2, 1) := by decide +kernel
theorem d_L_changed_1 : decode c_L_changed 1 = .ok (.iconst 0, 1) := by decide +kernel
theorem d_L_changed_2 : decode c_L_changed 2 = .ok (.aload_n 0, 1) := by decide +kernel
theorem d_L_changed_3 : decode c_L_changed 3 = .ok (.iload_n 1, 1) := by decide +kernel
theorem d_L_changed_4 : decode c_L_changed 4 = .ok (.invokevirtual 54, 3) := by decide +kernel
theorem d_L_changed_7 : decode c_L_changed 7 = .ok (.i2l, 1) := by decide +kernel
theorem d_L_changed_8 : decode c_L_changed 8 = .ok (.lastore, 1) := by decide +kernel
theorem d_L_changed_9 : decode c_L_changed 9 = .ok (.goto 6, 3) := by decide +kernel
theorem d_L_changed_12 : decode c_L_changed 12 = .ok (.astore_n 3, 1) := by decide +kernel
theorem d_L_changed_13 : decode c_L_changed 13 = .ok (.iconst 1, 1) := by decide +kernel
theorem d_L_changed_14 : decode c_L_changed 14 = .ok (.ireturn, 1) := by decide +kernel
theorem d_L_changed_15 : decode c_L_changed 15 = .ok (.iconst 0, 1) := by decide +kernel
theorem d_L_changed_16 : decode c_L_changed 16 = .ok (.ireturn, 1) := by decide +kernel
theorem d_L_count_0 : decode c_L_count 0 = .ok (.aload_n 3, 1) := by decide +kernel
theorem d_L_count_1 : decode c_L_count 1 = .ok (.iconst 0, 1) := by decide +kernel
theorem d_L_count_2 : decode c_L_count 2 = .ok (.aload_n 0, 1) := by decide +kernel
theorem d_L_count_3 : decode c_L_count 3 = .ok (.iload_n 1, 1) := by decide +kernel
theorem d_L_count_4 : decode c_L_count 4 = .ok (.iload_n 2, 1) := by decide +kernel
theorem d_L_count_5 : decode c_L_count 5 = .ok (.invokevirtual 57, 3) := by decide +kernel
theorem d_L_count_8 : decode c_L_count 8 = .ok (.i2l, 1) := by decide +kernel
theorem d_L_count_9 : decode c_L_count 9 = .ok (.lastore, 1) := by decide +kernel
theorem d_L_count_10 : decode c_L_count 10 = .ok (.goto 11, 3) := by decide +kernel
theorem d_L_count_13 : decode c_L_count 13 = .ok (.astore 4, 2) := by decide +kernel
theorem d_L_count_15 : decode c_L_count 15 = .ok (.iconst 1, 1) := by decide +kernel
theorem d_L_count_16 : decode c_L_count 16 = .ok (.ireturn, 1) := by decide +kernel
theorem d_L_count_17 : decode c_L_count 17 = .ok (.astore 4, 2) := by decide +kernel
theorem d_L_count_19 : decode c_L_count 19 = .ok (.iconst 2, 1) := by decide +kernel
theorem d_L_count_20 : decode c_L_count 20 = .ok (.ireturn, 1) := by decide +kernel
theorem d_L_count_21 : decode c_L_count 21 = .ok (.iconst 0, 1) := by decide +kernel
theorem d_L_count_22 : decode c_L_count 22 = .ok (.ireturn, 1) := by decide +kernel
theorem d_L_all_0 : decode c_L_all 0 = .ok (.aload_n 2, 1) := by decide +kernel
theorem d_L_all_1 : decode c_L_all 1 = .ok (.iconst 0, 1) := by decide +kernel
theorem d_L_all_2 : decode c_L_all 2 = .ok (.aload_n 0, 1) := by decide +kernel
theorem d_L_all_3 : decode c_L_all 3 = .ok (.iload_n 1, 1) := by decide +kernel
theorem d_L_all_4 : decode c_L_all 4 = .ok (.invokevirtual 61, 3) := by decide +kernel
theorem d_L_all_7 : decode c_L_all 7 = .ok (.i2l, 1) := by decide +kernel
theorem d_L_all_8 : decode c_L_all 8 = .ok (.lastore, 1) := by decide +kernel
theorem d_L_all_9 : decode c_L_all 9 = .ok (.goto 6, 3) := by decide +kernel
theorem d_L_all_12 : decode c_L_all 12 = .ok (.astore_n 3, 1) := by decide +kernel
theorem d_L_all_13 : decode c_L_all 13 = .ok (.iconst 1, 1) := by decide +kernel
theorem d_L_all_14 : decode c_L_all 14 = .ok (.ireturn, 1) := by decide +kernel
theorem d_L_all_15 : decode c_L_all 15 = .ok (.iconst 0, 1) := by decide +kernel
theorem d_L_all_16 : decode c_L_all 16 = .ok (.ireturn, 1) := by decide +kernel
end
section
/-! What each instruction is: class java/lang/Integer. -/
theorem d_J_bitCount_0 : decode c_J_bitCount 0 = .ok (.iload_n 0, 1) := by decide +kernel
theorem d_J_bitCount_1 : decode c_J_bitCount 1 = .ok (.iload_n 0, 1) := by decide +kernel
theorem d_J_bitCount_2 : decode c_J_bitCount 2 = .ok (.iconst 1, 1) := by decide +kernel
theorem d_J_bitCount_3 : decode c_J_bitCount 3 = .ok (.iushr, 1) := by decide +kernel
theorem d_J_bitCount_4 : decode c_J_bitCount 4 = .ok (.ldc_w 265, 3) := by decide +kernel
theorem d_J_bitCount_7 : decode c_J_bitCount 7 = .ok (.iand, 1) := by decide +kernel
theorem d_J_bitCount_8 : decode c_J_bitCount 8 = .ok (.isub, 1) := by decide +kernel
theorem d_J_bitCount_9 : decode c_J_bitCount 9 = .ok (.istore_n 0, 1) := by decide +kernel
theorem d_J_bitCount_10 : decode c_J_bitCount 10 = .ok (.iload_n 0, 1) := by decide +kernel
theorem d_J_bitCount_11 : decode c_J_bitCount 11 = .ok (.ldc_w 266, 3) := by decide +kernel
theorem d_J_bitCount_14 : decode c_J_bitCount 14 = .ok (.iand, 1) := by decide +kernel
theorem d_J_bitCount_15 : decode c_J_bitCount 15 = .ok (.iload_n 0, 1) := by decide +kernel
theorem d_J_bitCount_16 : decode c_J_bitCount 16 = .ok (.iconst 2, 1) := by decide +kernel
theorem d_J_bitCount_17 : decode c_J_bitCount 17 = .ok (.iushr, 1) := by decide +kernel
theorem d_J_bitCount_18 : decode c_J_bitCount 18 = .ok (.ldc_w 266, 3) := by decide +kernel
theorem d_J_bitCount_21 : decode c_J_bitCount 21 = .ok (.iand, 1) := by decide +kernel
theorem d_J_bitCount_22 : decode c_J_bitCount 22 = .ok (.iadd, 1) := by decide +kernel
theorem d_J_bitCount_23 : decode c_J_bitCount 23 = .ok (.istore_n 0, 1) := by decide +kernel
theorem d_J_bitCount_24 : decode c_J_bitCount 24 = .ok (.iload_n 0, 1) := by decide +kernel
theorem d_J_bitCount_25 : decode c_J_bitCount 25 = .ok (.iload_n 0, 1) := by decide +kernel
theorem d_J_bitCount_26 : decode c_J_bitCount 26 = .ok (.iconst 4, 1) := by decide +kernel
theorem d_J_bitCount_27 : decode c_J_bitCount 27 = .ok (.iushr, 1) := by decide +kernel
theorem d_J_bitCount_28 : decode c_J_bitCount 28 = .ok (.iadd, 1) := by decide +kernel
theorem d_J_bitCount_29 : decode c_J_bitCount 29 = .ok (.ldc_w 267, 3) := by decide +kernel
theorem d_J_bitCount_32 : decode c_J_bitCount 32 = .ok (.iand, 1) := by decide +kernel
theorem d_J_bitCount_33 : decode c_J_bitCount 33 = .ok (.istore_n 0, 1) := by decide +kernel
theorem d_J_bitCount_34 : decode c_J_bitCount 34 = .ok (.iload_n 0, 1) := by decide +kernel
theorem d_J_bitCount_35 : decode c_J_bitCount 35 = .ok (.iload_n 0, 1) := by decide +kernel
theorem d_J_bitCount_36 : decode c_J_bitCount 36 = .ok (.bipush 8, 2) := by decide +kernel
theorem d_J_bitCount_38 : decode c_J_bitCount 38 = .ok (.iushr, 1) := by decide +kernel
theorem d_J_bitCount_39 : decode c_J_bitCount 39 = .ok (.iadd, 1) := by decide +kernel
theorem d_J_bitCount_40 : decode c_J_bitCount 40 = .ok (.istore_n 0, 1) := by decide +kernel
theorem d_J_bitCount_41 : decode c_J_bitCount 41 = .ok (.iload_n 0, 1) := by decide +kernel
theorem d_J_bitCount_42 : decode c_J_bitCount 42 = .ok (.iload_n 0, 1) := by decide +kernel
theorem d_J_bitCount_43 : decode c_J_bitCount 43 = .ok (.bipush 16, 2) := by decide +kernel
theorem d_J_bitCount_45 : decode c_J_bitCount 45 = .ok (.iushr, 1) := by decide +kernel
theorem d_J_bitCount_46 : decode c_J_bitCount 46 = .ok (.iadd, 1) := by decide +kernel
theorem d_J_bitCount_47 : decode c_J_bitCount 47 = .ok (.istore_n 0, 1) := by decide +kernel
theorem d_J_bitCount_48 : decode c_J_bitCount 48 = .ok (.iload_n 0, 1) := by decide +kernel
theorem d_J_bitCount_49 : decode c_J_bitCount 49 = .ok (.bipush 63, 2) := by decide +kernel
theorem d_J_bitCount_51 : decode c_J_bitCount 51 = .ok (.iand, 1) := by decide +kernel
theorem d_J_bitCount_52 : decode c_J_bitCount 52 = .ok (.ireturn, 1) := by decide +kernel
end
section
/-! A transaction's cells in the heap, and what the contracts of its methods begin and end with. -/
abbrev rmx (f c s l : Nat) : Room := { frames := f, cells := c, slots := s, locals := l }
theorem BIG_SS {own : String} {index : Nat} {y : MethodName} {c : Cond} (h1 : Cond.methodLink own index y ∈ BIG) (h2 : Cond.static y ∈ BIG) (h3 : Cond.initialized y.cls ∈ BIG) (h : c ∈ BIG) : GoodIn BIG (va_wsS own index y (c :: BIG)) := fun w hw => by
  unfold va_wsS at hw
  rcases List.mem_append.mp hw with q | q
  · have hm : w ∈ BIG := by
      simp only [List.mem_cons, List.not_mem_nil, or_false] at q
      rcases q with rfl | rfl | rfl
      · exact h1
      · exact h2
      · exact h3
    exact ⟨hm, good_of_word (List.all_eq_true.mp BIG_all w hm)⟩
  · exact BIG_good h w q
/-- the array classes: int, long, long[], Transaction, boolean -/
abbrev kT (k : Nat → ClassId) : List (ClassId × FieldType) := [(k 0, .int), (k 1, .long), (k 2, .array .long), (k 3, .object R_T), (k 4, .boolean)]
/-- the cells of a transaction: its object, its written cells, its outer array, its five rows -/
def tW (k : Nat → ClassId) (a : Nat → Nat) (z : xTS) : va_W := [(a 0, .inr (0, [.int (bI (xO z)), .int (bI (xS z)), .int (xR z), .int (nI (xP z)), .ref (a 1), .ref (a 2)])), (a 1, .inl (k 0, 5, .inl (xW z))), (a 2, .inl (k 2, 5, .inr (.inr (.inr (.inr (fun i => some (a (3 + i)))))))),
  (a 3, .inl (k 1, 32, .inr (.inl (xV z 0)))), (a 4, .inl (k 1, 32, .inr (.inl (xV z 1)))), (a 5, .inl (k 1, 32, .inr (.inl (xV z 2)))), (a 6, .inl (k 1, 32, .inr (.inl (xV z 3)))), (a 7, .inl (k 1, 32, .inr (.inl (xV z 4))))]
theorem tW_row {k : Nat → ClassId} {a : Nat → Nat} {z : xTS} {p : Nat} (hp : p < 5) : (tW k a z)[3 + p]? = some (a (3 + p), .inl (k 1, 32, .inr (.inl (xV z p)))) := by
  rcases (show p = 0 ∨ p = 1 ∨ p = 2 ∨ p = 3 ∨ p = 4 by omega) with rfl | rfl | rfl | rfl | rfl <;> rfl
theorem tW_set {k : Nat → ClassId} {a : Nat → Nat} {z : xTS} {p : Nat} {g : Nat → Int64} (hp : p < 5) : (tW k a z).set (3 + p) (a (3 + p), .inl (k 1, 32, .inr (.inl g))) = tW k a (xO z, xS z, xR z, xP z, xW z, va_up (xV z) p g) := by
  rcases (show p = 0 ∨ p = 1 ∨ p = 2 ∨ p = 3 ∨ p = 4 by omega) with rfl | rfl | rfl | rfl | rfl <;> rfl
/-- the same addresses: apart as well -/
theorem va_D_adr {A : Nat → Prop} {w1 w2 : va_W} (h : w1.map (·.1) = w2.map (·.1)) (hD : va_D A w1) : va_D A w2 := by
  have key : ∀ (i : Nat) (q : Nat × va_E), w2[i]? = some q → ∃ r : Nat × va_E, w1[i]? = some r ∧ r.1 = q.1 := by
    intro i q hq
    have h1 : (w2.map (·.1))[i]? = some q.1 := by rw [List.getElem?_map, hq]; rfl
    rw [← h, List.getElem?_map] at h1
    cases hr : w1[i]? with
    | none => rw [hr] at h1; cases h1
    | some r => rw [hr] at h1; exact ⟨r, rfl, Option.some.inj h1⟩
  refine ⟨fun i j p q hp hq e => ?_, fun i q hq => ?_⟩
  · obtain ⟨r1, g1, e1⟩ := key i p hp
    obtain ⟨r2, g2, e2⟩ := key j q hq
    exact hD.1 i j r1 r2 g1 g2 (by rw [e1, e2, e])
  · obtain ⟨r, g, e⟩ := key i q hq
    rw [← e]; exact hD.2 i r g
theorem tW_D {A : Nat → Prop} {k : Nat → ClassId} {a : Nat → Nat} {z z2 : xTS} (h : va_D A (tW k a z)) : va_D A (tW k a z2) := va_D_adr (w1 := tW k a z) (w2 := tW k a z2) rfl h
theorem va_A_adr {w1 w2 : va_W} {sz q : Nat} (h : w1.map (·.1) = w2.map (·.1)) (hA : va_A w1 sz q) : va_A w2 sz q := by
  rcases hA with ⟨i, e, hi⟩ | hA
  · left
    have h1 : (w1.map (·.1))[i]? = some q := by rw [List.getElem?_map, hi]; rfl
    rw [h, List.getElem?_map] at h1
    cases hr : w2[i]? with
    | none => rw [hr] at h1; cases h1
    | some r =>
      rw [hr] at h1
      have e1 : r.1 = q := Option.some.inj h1
      exact ⟨i, r.2, by rw [← e1]; exact hr⟩
  · exact Or.inr hA
/-- the start of a method that writes nothing -/
def tRc (dC : Nat → ClassId) (dI : Nat → Nat → Nat) (k : Nat → ClassId) (a : Nat → Nat) (z : xTS) (av : List Value) : Array Value → State → Prop := va_Pc av (fun U => va_P (dC, dI) vwC (tW k a z) U.heap ∧ va_K (dC, dI) vwC (kT k) U)
/-- the start of a method that writes -/
def tPc (dC : Nat → ClassId) (dI : Nat → Nat → Nat) (k : Nat → ClassId) (a : Nat → Nat) (sz : Nat) (z : xTS) (av : List Value) : Array Value → State → Prop := va_Pc av (fun U => U.heap.size = sz ∧ va_P (dC, dI) vwC (tW k a z) U.heap ∧ va_K (dC, dI) vwC (kT k) U ∧ va_D (fun _ => True) (tW k a z))
abbrev tB (dC : Nat → ClassId) (dI : Nat → Nat → Nat) (k : Nat → ClassId) (a : Nat → Nat) (z : xTS) (t : State) : Prop := va_P (dC, dI) vwC (tW k a z) t.heap
/-- the end of a method that writes: the transaction is the one that f says -/
abbrev tQ (dC : Nat → ClassId) (dI : Nat → Nat → Nat) (k : Nat → ClassId) (a : Nat → Nat) (sz : Nat) (z z2 : xTS) : Array Value → State → Outcome → State → Prop := va_Qv (fun u : xTS => u = z2) (tB dC dI k a) (va_A (tW k a z) sz)
theorem tRc_pre {dC : Nat → ClassId} {dI : Nat → Nat → Nat} {k : Nat → ClassId} {a : Nat → Nat} {z : xTS} {s : State} {H : Heap} (As : List Value) (hP : va_P (dC, dI) vwC (tW k a z) H) (hK : va_K (dC, dI) vwC (kT k) s) : PreV s H R_T (a 0) (tRc dC dI k a z (.ref (a 0) :: As)) As :=
  ⟨fun av U g mk q => by obtain ⟨q0, qP, qK⟩ := q; exact ⟨q0, qP, va_K.moved (u := U) (U := U.calling g mk av) (Vm.Alike.refl U.vm) qK⟩, va_recv (q0 := 0) (ci := 0) (q := (R_T, F_T, 6)) hK hP rfl rfl, fun U hU hW => ⟨rfl, by rw [hU]; exact hP, va_K.moved hW.alike hK⟩⟩
theorem tPc_pre {dC : Nat → ClassId} {dI : Nat → Nat → Nat} {k : Nat → ClassId} {a : Nat → Nat} {z : xTS} {s : State} {H : Heap} {A : Nat → Prop} (As : List Value) (hP : va_P (dC, dI) vwC (tW k a z) H) (hK : va_K (dC, dI) vwC (kT k) s) (hD : va_D A (tW k a z)) : PreV s H R_T (a 0) (tPc dC dI k a H.size z (.ref (a 0) :: As)) As :=
  ⟨fun av U g mk q => by obtain ⟨q0, q1, qP, qK, qD⟩ := q; exact ⟨q0, q1, qP, va_K.moved (u := U) (U := U.calling g mk av) (Vm.Alike.refl U.vm) qK, qD⟩, va_recv (q0 := 0) (ci := 0) (q := (R_T, F_T, 6)) hK hP rfl rfl, fun U hU hW => ⟨rfl, by rw [hU], by rw [hU]; exact hP, va_K.moved hW.alike hK, hD.weaken (fun _ _ _ _ => trivial)⟩⟩
section XA
variable {p : Program} {l : Launch} {e : Env} {R : Room} {s : State} {m : MethodId} {args : Array Value} {below : List Frame} {meth : Method} {c : Code} {H : Heap} {locs : List Loc} {cells slots : Nat} {Q : State → Prop}
variable {cc : ByteArray} {pc : Nat} {ls : Array Slot} {rest : List Value} {D : va_G} {cl : List vw_C} {a : Nat} {tys : List (ClassId × FieldType)} {ws : va_W}
/-- a row out of an array of long[] -/
theorem xa_aald (hexec : p.tables.exec = Jvm.exec) (hb : c.code = cc) (hK : va_K D cl tys s) (hP : va_P D cl ws H) (q0 t0 : Nat) {cA : ClassId} {n r : Nat} {f : Nat → Option Nat} (ha : ws[q0]? = some (a, .inl (cA, n, .inr (.inr (.inr (.inr f)))))) (ht : tys[t0]? = some (cA, .array .long)) {i : Int32} (hin : vp_in i n) (hf : f i.toNatClampNeg = some r) (hdg : decode cc pc = .ok (.aaload, 1))
    (kk : W p l e R s m args below meth c H locs cells slots Q (F0 m (pc + 1) ls (.ref r :: rest))) : W p l e R s m args below meth c H locs cells slots Q (F0 m pc ls (.int i :: .ref a :: rest)) := by
  have hlt : i.toNatClampNeg < n := Nat.not_le.mp fun q => hin (Or.inr q)
  refine W.aald (v := va_rf (f i.toNatClampNeg)) (ty := .array .long) hexec hb (hP q0 _ ha) ((hK.2 t0 _ ht).1 n (fun j => va_rf (f j))) rfl (fun q => by cases q) (by show ¬ (i < 0 ∨ (arrV _ _ _).slots.size ≤ _); rw [arrV_size]; exact hin) (by show (arrV _ _ _).slots[_]? = _; rw [arrV_read _ _ hlt]) rfl rfl hdg ?_
  rw [hf]
  exact kk
end XA
theorem cl_nI {n : Nat} (h : n < 2 ^ 31) : (nI n).toNatClampNeg = n := nI_clamp h
end
section
/-! The nested class: a contract a method. -/
set_option maxHeartbeats 4000000 in
set_option maxRecDepth 100000 in
theorem m_T_holds (l : Launch) (x : Int32) (j : Nat) (hj : j < 32) : Met l y_T_holds w_T_holds (rmx 0 0 0 0) (fun v _ => v = ([.int x, .int (nI j)] : List Value).toArray) (vp_Si (fun r => r = bI (bt x j))) 0 0 (fun _ => False) := by
  refine Met.ofW (cc := c_T_holds) (maxL := 2) (ret := (some .boolean)) (by decide) rfl ?_
  intro p e s m args below meth c s₁ B hml hv
  obtain rfl := hv
  have hx := B.exec
  have hb := B.bytes
  have hr := B.returns
  have hts := atoms_spec (ws := w_T_holds) B.pre
  have hB : ∀ w ∈ BIG, w.before _ s = true := fun w h => hts w (List.mem_cons_of_mem _ h)
  have hown : s.vm.findClass R_T = some m.cls := findClass_of_methodNamed B.named
  have hlocks := B.notSynchronized
  have hl := lv_entry ([.int x, .int (nI j)]) (n := 2) (Nat.le_of_ble_eq_true rfl)
  rw [lg_entry_eq]
  generalize (lg_sl ([.int x, .int (nI j)]) ++ List.replicate (2 - (lg_sl ([.int x, .int (nI j)])).length) Slot.unset).toArray = ls at hl ⊢
  have hl : lv_has ls 2 [(0, .int x), (1, .int (nI j))] := hl
  refine lv_iload_n hx hb d_T_holds_0 rfl (lv_at hl 0 rfl) ?_
  refine lv_iload_n hx hb d_T_holds_1 rfl (lv_at hl 1 rfl) ?_
  refine lv_ishr hx hb d_T_holds_2 ?_
  refine lv_iconst (v := 1) hx hb d_T_holds_3 (by decide) ?_
  refine lv_iand hx hb d_T_holds_4 ?_
  refine W.eq (g2 := F0 m 5 ls [.int (bI (bt x j))]) (by rw [hold_bt x hj]) ?_
  refine lv_iconst (v := 1) hx hb d_T_holds_5 (by decide) ?_
  refine lv_icmp_ne hx hb d_T_holds_6 rfl (fun h9 => ?_) (fun h9 => ?_)
  · have h8 : bt x j = false := by cases hc : bt x j; rfl; exact absurd (bI_eq.mpr hc) h9
    refine lv_iconst (v := bI (bt x j)) hx hb d_T_holds_13 (by rw [h8]; decide) ?_
    exact W.zret (v := bI (bt x j)) hx hb hr (bI_nar _) (fun t ht hW => ⟨_, rfl, rfl, ht⟩) (fun q h => nomatch h) d_T_holds_14
  · have h8 : bt x j = true := bI_eq.mp h9
    refine lv_iconst (v := bI (bt x j)) hx hb d_T_holds_9 (by rw [h8]; decide) ?_
    refine lv_goto hx hb d_T_holds_10 rfl ?_
    exact W.zret (v := bI (bt x j)) hx hb hr (bI_nar _) (fun t ht hW => ⟨_, rfl, rfl, ht⟩) (fun q h => nomatch h) d_T_holds_14
set_option maxHeartbeats 4000000 in
set_option maxRecDepth 100000 in
theorem m_T_isOpen (l : Launch) (dC : Nat → ClassId) (dI : Nat → Nat → Nat) (k : Nat → ClassId) (a : Nat → Nat) (z : xTS) : Met l y_T_isOpen w_T_isOpen (rmx 0 0 0 0) (tRc dC dI k a z [.ref (a 0)]) (vp_Si (fun r => r = bI (xO z))) 0 0 (fun _ => False) := by
  refine Met.ofW (cc := c_T_isOpen) (maxL := 1) (ret := (some .boolean)) (by decide) rfl ?_
  intro p e s m args below meth c s₁ B hml hv
  obtain ⟨rfl, hP, hK⟩ := hv
  have hx := B.exec
  have hb := B.bytes
  have hr := B.returns
  have hts := atoms_spec (ws := w_T_isOpen) B.pre
  have hB : ∀ w ∈ BIG, w.before _ s = true := fun w h => hts w (List.mem_cons_of_mem _ h)
  have hown : s.vm.findClass R_T = some m.cls := findClass_of_methodNamed B.named
  have hlocks := B.notSynchronized
  have hl := lv_entry ([.ref (a 0)]) (n := 1) (Nat.le_of_ble_eq_true rfl)
  rw [lg_entry_eq]
  generalize (lg_sl ([.ref (a 0)]) ++ List.replicate (1 - (lg_sl ([.ref (a 0)])).length) Slot.unset).toArray = ls at hl ⊢
  have hl : lv_has ls 1 [(0, .ref (a 0))] := hl
  refine lv_aload_n hx hb d_T_isOpen_0 rfl (lv_at hl 0 rfl) ?_
  refine va_get (D := (dC, dI)) (ci := 0) (v := .int (bI (xO z))) (C := R_T) (T := F_T) (N := 6) hx hb hB in_T hown hK hP 0 rfl rfl 0 (by decide) (hB _ bw_41) (fun _ h9 => h9) rfl d_T_isOpen_1 ?_
  exact W.zret (v := bI (xO z)) hx hb hr (bI_nar _) (fun t ht hW => ⟨_, rfl, rfl, ht⟩) (fun q h => nomatch h) d_T_isOpen_4
set_option maxHeartbeats 4000000 in
set_option maxRecDepth 100000 in
theorem m_T_isStale (l : Launch) (dC : Nat → ClassId) (dI : Nat → Nat → Nat) (k : Nat → ClassId) (a : Nat → Nat) (z : xTS) : Met l y_T_isStale w_T_isStale (rmx 0 0 0 0) (tRc dC dI k a z [.ref (a 0)]) (vp_Si (fun r => r = bI (xS z))) 0 0 (fun _ => False) := by
  refine Met.ofW (cc := c_T_isStale) (maxL := 1) (ret := (some .boolean)) (by decide) rfl ?_
  intro p e s m args below meth c s₁ B hml hv
  obtain ⟨rfl, hP, hK⟩ := hv
  have hx := B.exec
  have hb := B.bytes
  have hr := B.returns
  have hts := atoms_spec (ws := w_T_isStale) B.pre
  have hB : ∀ w ∈ BIG, w.before _ s = true := fun w h => hts w (List.mem_cons_of_mem _ h)
  have hown : s.vm.findClass R_T = some m.cls := findClass_of_methodNamed B.named
  have hlocks := B.notSynchronized
  have hl := lv_entry ([.ref (a 0)]) (n := 1) (Nat.le_of_ble_eq_true rfl)
  rw [lg_entry_eq]
  generalize (lg_sl ([.ref (a 0)]) ++ List.replicate (1 - (lg_sl ([.ref (a 0)])).length) Slot.unset).toArray = ls at hl ⊢
  have hl : lv_has ls 1 [(0, .ref (a 0))] := hl
  refine lv_aload_n hx hb d_T_isStale_0 rfl (lv_at hl 0 rfl) ?_
  refine va_get (D := (dC, dI)) (ci := 0) (v := .int (bI (xS z))) (C := R_T) (T := F_T) (N := 6) hx hb hB in_T hown hK hP 0 rfl rfl 1 (by decide) (hB _ bw_42) (fun _ h9 => h9) rfl d_T_isStale_1 ?_
  exact W.zret (v := bI (xS z)) hx hb hr (bI_nar _) (fun t ht hW => ⟨_, rfl, rfl, ht⟩) (fun q h => nomatch h) d_T_isStale_4
set_option maxHeartbeats 4000000 in
set_option maxRecDepth 100000 in
theorem m_T_partCount (l : Launch) (dC : Nat → ClassId) (dI : Nat → Nat → Nat) (k : Nat → ClassId) (a : Nat → Nat) (z : xTS) : Met l y_T_partCount w_T_partCount (rmx 0 0 0 0) (tRc dC dI k a z [.ref (a 0)]) (vp_Si (fun r => r = nI (xP z))) 0 0 (fun _ => False) := by
  refine Met.ofW (cc := c_T_partCount) (maxL := 1) (ret := (some .int)) (by decide) rfl ?_
  intro p e s m args below meth c s₁ B hml hv
  obtain ⟨rfl, hP, hK⟩ := hv
  have hx := B.exec
  have hb := B.bytes
  have hr := B.returns
  have hts := atoms_spec (ws := w_T_partCount) B.pre
  have hB : ∀ w ∈ BIG, w.before _ s = true := fun w h => hts w (List.mem_cons_of_mem _ h)
  have hown : s.vm.findClass R_T = some m.cls := findClass_of_methodNamed B.named
  have hlocks := B.notSynchronized
  have hl := lv_entry ([.ref (a 0)]) (n := 1) (Nat.le_of_ble_eq_true rfl)
  rw [lg_entry_eq]
  generalize (lg_sl ([.ref (a 0)]) ++ List.replicate (1 - (lg_sl ([.ref (a 0)])).length) Slot.unset).toArray = ls at hl ⊢
  have hl : lv_has ls 1 [(0, .ref (a 0))] := hl
  refine lv_aload_n hx hb d_T_partCount_0 rfl (lv_at hl 0 rfl) ?_
  refine va_get (D := (dC, dI)) (ci := 0) (v := .int (nI (xP z))) (C := R_T) (T := F_T) (N := 6) hx hb hB in_T hown hK hP 0 rfl rfl 3 (by decide) (hB _ bw_44) (fun _ h9 => h9) rfl d_T_partCount_1 ?_
  exact W.iret (v := nI (xP z)) hx hb hr (fun t ht hW => ⟨_, rfl, rfl, ht⟩) (fun q h => nomatch h) d_T_partCount_4
set_option maxHeartbeats 4000000 in
set_option maxRecDepth 100000 in
theorem m_T_close (l : Launch) (dC : Nat → ClassId) (dI : Nat → Nat → Nat) (k : Nat → ClassId) (a : Nat → Nat) (sz : Nat) (z : xTS) : Met l y_T_close w_T_close (rmx 0 0 0 0) (tPc dC dI k a sz z [.ref (a 0)]) (va_Qv (fun u : xTS => u = tClose z) (tB dC dI k a) (va_A (tW k a z) sz)) 0 0 (va_A (tW k a z) sz) := by
  refine Met.ofW (cc := c_T_close) (maxL := 1) (ret := none) (by decide) rfl ?_
  intro p e s m args below meth c s₁ B hml hv
  obtain ⟨rfl, hsz, hP, hK, hD0⟩ := hv
  have hx := B.exec
  have hb := B.bytes
  have hr := B.returns
  have hts := atoms_spec (ws := w_T_close) B.pre
  have hB : ∀ w ∈ BIG, w.before _ s = true := fun w h => hts w (List.mem_cons_of_mem _ h)
  have hown : s.vm.findClass R_T = some m.cls := findClass_of_methodNamed B.named
  have hlocks := B.notSynchronized
  have hl := lv_entry ([.ref (a 0)]) (n := 1) (Nat.le_of_ble_eq_true rfl)
  rw [lg_entry_eq]
  generalize (lg_sl ([.ref (a 0)]) ++ List.replicate (1 - (lg_sl ([.ref (a 0)])).length) Slot.unset).toArray = ls at hl ⊢
  have hl : lv_has ls 1 [(0, .ref (a 0))] := hl
  subst hsz
  have hD := hD0.self (sz := s.heap.size)
  generalize hAe : va_A (tW k a z) s.heap.size = A at hD ⊢
  have hA : ∀ q : Nat, s.heap.size ≤ q → A q := fun q h => by rw [← hAe]; exact Or.inr h
  have hS : va_S A s.heap s.heap [] := va_S.rf
  refine lv_aload_n hx hb d_T_close_0 rfl (lv_at hl 0 rfl) ?_
  refine lv_iconst (v := bI false) hx hb d_T_close_1 (by decide) ?_
  refine va_put (D := (dC, dI)) (ci := 0) (v := .int (bI false)) (ty := .boolean) (C := R_T) (T := F_T) (N := 6) hx hb hB in_T tf_T ty_T nm_T hown hK hP hD hS 0 rfl rfl 0 (by decide) (hB _ bw_41) (fun _ h9 => h9) rfl (by decide +kernel) (bI_nar _) (bI_fit _) (Nat.le_of_ble_eq_true rfl) d_T_close_2 (fun H locs hP hD hS => ?_)
  have hP : va_P (dC, dI) vwC (tW k a (false, z.2)) H := hP
  have hD : va_D A (tW k a (false, z.2)) := hD
  exact W.vret hx hb hr (fun t ht hW => ⟨⟨_, rfl, rfl, by show va_P (dC, dI) vwC _ t.heap; rw [ht]; exact hP⟩, hS.F ht⟩) hS.2.2 d_T_close_5
set_option maxHeartbeats 4000000 in
set_option maxRecDepth 100000 in
theorem m_T_start (l : Launch) (dC : Nat → ClassId) (dI : Nat → Nat → Nat) (k : Nat → ClassId) (a : Nat → Nat) (sz : Nat) (z : xTS) : Met l y_T_start w_T_start (rmx 0 0 0 0) (tPc dC dI k a sz z [.ref (a 0)]) (va_Qv (fun u : xTS => u = tStart z) (tB dC dI k a) (va_A (tW k a z) sz)) 0 0 (va_A (tW k a z) sz) := by
  refine Met.ofW (cc := c_T_start) (maxL := 1) (ret := none) (by decide) rfl ?_
  intro p e s m args below meth c s₁ B hml hv
  obtain ⟨rfl, hsz, hP, hK, hD0⟩ := hv
  have hx := B.exec
  have hb := B.bytes
  have hr := B.returns
  have hts := atoms_spec (ws := w_T_start) B.pre
  have hB : ∀ w ∈ BIG, w.before _ s = true := fun w h => hts w (List.mem_cons_of_mem _ h)
  have hown : s.vm.findClass R_T = some m.cls := findClass_of_methodNamed B.named
  have hlocks := B.notSynchronized
  have hl := lv_entry ([.ref (a 0)]) (n := 1) (Nat.le_of_ble_eq_true rfl)
  rw [lg_entry_eq]
  generalize (lg_sl ([.ref (a 0)]) ++ List.replicate (1 - (lg_sl ([.ref (a 0)])).length) Slot.unset).toArray = ls at hl ⊢
  have hl : lv_has ls 1 [(0, .ref (a 0))] := hl
  subst hsz
  have hD := hD0.self (sz := s.heap.size)
  generalize hAe : va_A (tW k a z) s.heap.size = A at hD ⊢
  have hA : ∀ q : Nat, s.heap.size ≤ q → A q := fun q h => by rw [← hAe]; exact Or.inr h
  have hS : va_S A s.heap s.heap [] := va_S.rf
  refine lv_aload_n hx hb d_T_start_0 rfl (lv_at hl 0 rfl) ?_
  refine lv_iconst (v := bI true) hx hb d_T_start_1 (by decide) ?_
  refine va_put (D := (dC, dI)) (ci := 0) (v := .int (bI true)) (ty := .boolean) (C := R_T) (T := F_T) (N := 6) hx hb hB in_T tf_T ty_T nm_T hown hK hP hD hS 0 rfl rfl 0 (by decide) (hB _ bw_41) (fun _ h9 => h9) rfl (by decide +kernel) (bI_nar _) (bI_fit _) (Nat.le_of_ble_eq_true rfl) d_T_start_2 (fun H locs hP hD hS => ?_)
  have hP : va_P (dC, dI) vwC (tW k a (true, z.2)) H := hP
  have hD : va_D A (tW k a (true, z.2)) := hD
  refine lv_aload_n hx hb d_T_start_5 rfl (lv_at hl 0 rfl) ?_
  refine lv_iconst (v := bI false) hx hb d_T_start_6 (by decide) ?_
  refine va_put (D := (dC, dI)) (ci := 0) (v := .int (bI false)) (ty := .boolean) (C := R_T) (T := F_T) (N := 6) hx hb hB in_T tf_T ty_T nm_T hown hK hP hD hS 0 rfl rfl 1 (by decide) (hB _ bw_42) (fun _ h9 => h9) rfl (by decide +kernel) (bI_nar _) (bI_fit _) (Nat.le_of_ble_eq_true rfl) d_T_start_7 (fun H locs hP hD hS => ?_)
  have hP : va_P (dC, dI) vwC (tW k a (true, false, z.2.2)) H := hP
  have hD : va_D A (tW k a (true, false, z.2.2)) := hD
  refine lv_aload_n hx hb d_T_start_10 rfl (lv_at hl 0 rfl) ?_
  refine lv_iconst (v := 0) hx hb d_T_start_11 (by decide) ?_
  refine va_put (D := (dC, dI)) (ci := 0) (v := .int 0) (ty := .int) (C := R_T) (T := F_T) (N := 6) hx hb hB in_T tf_T ty_T nm_T hown hK hP hD hS 0 rfl rfl 2 (by decide) (hB _ bw_43) (fun _ h9 => h9) rfl (by decide +kernel) (rfl) (rfl) (Nat.le_of_ble_eq_true rfl) d_T_start_12 (fun H locs hP hD hS => ?_)
  have hP : va_P (dC, dI) vwC (tW k a (true, false, 0, z.2.2.2)) H := hP
  have hD : va_D A (tW k a (true, false, 0, z.2.2.2)) := hD
  refine lv_aload_n hx hb d_T_start_15 rfl (lv_at hl 0 rfl) ?_
  refine lv_iconst (v := nI 1) hx hb d_T_start_16 (by decide) ?_
  refine va_put (D := (dC, dI)) (ci := 0) (v := .int (nI 1)) (ty := .int) (C := R_T) (T := F_T) (N := 6) hx hb hB in_T tf_T ty_T nm_T hown hK hP hD hS 0 rfl rfl 3 (by decide) (hB _ bw_44) (fun _ h9 => h9) rfl (by decide +kernel) (rfl) (rfl) (Nat.le_of_ble_eq_true rfl) d_T_start_17 (fun H locs hP hD hS => ?_)
  have hP : va_P (dC, dI) vwC (tW k a (true, false, 0, 1, z.2.2.2.2)) H := hP
  have hD : va_D A (tW k a (true, false, 0, 1, z.2.2.2.2)) := hD
  refine lv_aload_n hx hb d_T_start_20 rfl (lv_at hl 0 rfl) ?_
  refine va_get (D := (dC, dI)) (ci := 0) (v := .ref (a 1)) (C := R_T) (T := F_T) (N := 6) hx hb hB in_T hown hK hP 0 rfl rfl 4 (by decide) (hB _ bw_45) (fun _ h9 => h9) rfl d_T_start_21 ?_
  refine lv_iconst (v := nI 0) hx hb d_T_start_24 (by decide) ?_
  refine lv_iconst (v := 0) hx hb d_T_start_25 (by decide) ?_
  refine va_iast hx hb hK hP hD hS 1 0 rfl rfl (pk_in 0 5 (by omega)) d_T_start_26 (fun H locs hP hD hS => ?_)
  have hP : va_P (dC, dI) vwC (tW k a (tStart z)) H := hP
  exact W.vret hx hb hr (fun t ht hW => ⟨⟨_, rfl, rfl, by show va_P (dC, dI) vwC _ t.heap; rw [ht]; exact hP⟩, hS.F ht⟩) hS.2.2 d_T_start_27
set_option maxHeartbeats 4000000 in
set_option maxRecDepth 100000 in
theorem m_T_markRead (l : Launch) (dC : Nat → ClassId) (dI : Nat → Nat → Nat) (k : Nat → ClassId) (a : Nat → Nat) (sz : Nat) (z : xTS) (j : Nat) : Met l y_T_markRead w_T_markRead (rmx 0 0 0 0) (tPc dC dI k a sz z [.ref (a 0), .int (nI j)]) (va_Qv (fun u : xTS => u = tMark z j) (tB dC dI k a) (va_A (tW k a z) sz)) 0 0 (va_A (tW k a z) sz) := by
  refine Met.ofW (cc := c_T_markRead) (maxL := 2) (ret := none) (by decide) rfl ?_
  intro p e s m args below meth c s₁ B hml hv
  obtain ⟨rfl, hsz, hP, hK, hD0⟩ := hv
  have hx := B.exec
  have hb := B.bytes
  have hr := B.returns
  have hts := atoms_spec (ws := w_T_markRead) B.pre
  have hB : ∀ w ∈ BIG, w.before _ s = true := fun w h => hts w (List.mem_cons_of_mem _ h)
  have hown : s.vm.findClass R_T = some m.cls := findClass_of_methodNamed B.named
  have hlocks := B.notSynchronized
  have hl := lv_entry ([.ref (a 0), .int (nI j)]) (n := 2) (Nat.le_of_ble_eq_true rfl)
  rw [lg_entry_eq]
  generalize (lg_sl ([.ref (a 0), .int (nI j)]) ++ List.replicate (2 - (lg_sl ([.ref (a 0), .int (nI j)])).length) Slot.unset).toArray = ls at hl ⊢
  have hl : lv_has ls 2 [(0, .ref (a 0)), (1, .int (nI j))] := hl
  subst hsz
  have hD := hD0.self (sz := s.heap.size)
  generalize hAe : va_A (tW k a z) s.heap.size = A at hD ⊢
  have hA : ∀ q : Nat, s.heap.size ≤ q → A q := fun q h => by rw [← hAe]; exact Or.inr h
  have hS : va_S A s.heap s.heap [] := va_S.rf
  refine lv_aload_n hx hb d_T_markRead_0 rfl (lv_at hl 0 rfl) ?_
  refine lv_dup hx hb d_T_markRead_1 rfl ?_
  refine va_get (D := (dC, dI)) (ci := 0) (v := .int (xR z)) (C := R_T) (T := F_T) (N := 6) hx hb hB in_T hown hK hP 0 rfl rfl 2 (by decide) (hB _ bw_43) (fun _ h9 => h9) rfl d_T_markRead_2 ?_
  refine lv_iconst (v := 1) hx hb d_T_markRead_5 (by decide) ?_
  refine lv_iload_n hx hb d_T_markRead_6 rfl (lv_at hl 1 rfl) ?_
  refine lv_ishl hx hb d_T_markRead_7 ?_
  refine lv_ior hx hb d_T_markRead_8 ?_
  refine va_put (D := (dC, dI)) (ci := 0) (v := .int ((xR z) ||| (1 <<< (nI j &&& 31)))) (ty := .int) (C := R_T) (T := F_T) (N := 6) hx hb hB in_T tf_T ty_T nm_T hown hK hP hD hS 0 rfl rfl 2 (by decide) (hB _ bw_43) (fun _ h9 => h9) rfl (by decide +kernel) (rfl) (rfl) (Nat.le_of_ble_eq_true rfl) d_T_markRead_9 (fun H locs hP hD hS => ?_)
  have hP : va_P (dC, dI) vwC (tW k a (tMark z j)) H := hP
  have hD : va_D A (tW k a (tMark z j)) := hD
  exact W.vret hx hb hr (fun t ht hW => ⟨⟨_, rfl, rfl, by show va_P (dC, dI) vwC _ t.heap; rw [ht]; exact hP⟩, hS.F ht⟩) hS.2.2 d_T_markRead_12
set_option maxHeartbeats 4000000 in
set_option maxRecDepth 100000 in
theorem m_T_noteChange (l : Launch) (dC : Nat → ClassId) (dI : Nat → Nat → Nat) (k : Nat → ClassId) (a : Nat → Nat) (sz : Nat) (z : xTS) (j : Nat) (hj : j < 32) : Met l y_T_noteChange w_T_noteChange (rmx 1 0 0 32) (tPc dC dI k a sz z [.ref (a 0), .int (nI j)]) (va_Qv (fun u : xTS => u = tNote z j) (tB dC dI k a) (va_A (tW k a z) sz)) 0 0 (va_A (tW k a z) sz) := by
  refine Met.ofW (cc := c_T_noteChange) (maxL := 2) (ret := none) (by decide) rfl ?_
  intro p e s m args below meth c s₁ B hml hv
  obtain ⟨rfl, hsz, hP, hK, hD0⟩ := hv
  have hx := B.exec
  have hb := B.bytes
  have hr := B.returns
  have hts := atoms_spec (ws := w_T_noteChange) B.pre
  have hB : ∀ w ∈ BIG, w.before _ s = true := fun w h => hts w (List.mem_cons_of_mem _ h)
  have hown : s.vm.findClass R_T = some m.cls := findClass_of_methodNamed B.named
  have hlocks := B.notSynchronized
  have hl := lv_entry ([.ref (a 0), .int (nI j)]) (n := 2) (Nat.le_of_ble_eq_true rfl)
  rw [lg_entry_eq]
  generalize (lg_sl ([.ref (a 0), .int (nI j)]) ++ List.replicate (2 - (lg_sl ([.ref (a 0), .int (nI j)])).length) Slot.unset).toArray = ls at hl ⊢
  have hl : lv_has ls 2 [(0, .ref (a 0)), (1, .int (nI j))] := hl
  subst hsz
  have hD := hD0.self (sz := s.heap.size)
  generalize hAe : va_A (tW k a z) s.heap.size = A at hD ⊢
  have hA : ∀ q : Nat, s.heap.size ≤ q → A q := fun q h => by rw [← hAe]; exact Or.inr h
  have hS : va_S A s.heap s.heap [] := va_S.rf
  refine lv_aload_n hx hb d_T_noteChange_0 rfl (lv_at hl 0 rfl) ?_
  refine va_get (D := (dC, dI)) (ci := 0) (v := .int (bI (xO z))) (C := R_T) (T := F_T) (N := 6) hx hb hB in_T hown hK hP 0 rfl rfl 0 (by decide) (hB _ bw_41) (fun _ h9 => h9) rfl d_T_noteChange_1 ?_
  refine lv_if_eq hx hb d_T_noteChange_4 rfl (fun h9 => ?_) (fun h9 => ?_)
  · have h8 : xO z = false := bI_ne.mp h9
    exact W.vret hx hb hr (fun t ht hW => ⟨⟨z, rfl, (tNote_cl h8).symm, by show va_P (dC, dI) vwC _ t.heap; rw [ht]; exact hP⟩, hS.F ht⟩) hS.2.2 d_T_noteChange_23
  · have h8 : xO z = true := by cases hc : xO z; exact absurd (bI_ne.mpr hc) h9; rfl
    refine lv_aload_n hx hb d_T_noteChange_7 rfl (lv_at hl 0 rfl) ?_
    refine va_get (D := (dC, dI)) (ci := 0) (v := .int (xR z)) (C := R_T) (T := F_T) (N := 6) hx hb hB in_T hown hK hP 0 rfl rfl 2 (by decide) (hB _ bw_43) (fun _ h9 => h9) rfl d_T_noteChange_8 ?_
    refine lv_iload_n hx hb d_T_noteChange_11 rfl (lv_at hl 1 rfl) ?_
    refine vp_callSi (va_Run.run (va_runS (As := [.int (xR z), .int (nI j)]) (rest := []) ⟨hx, hb, hml, hown, hB⟩ (m_T_holds l (xR z) j hj) (va_cwS 2 hB (BIG_SS bw_185 bw_186 bw_17 bw_187) rfl rfl rfl ⟨by decide, by decide, by decide +kernel⟩ ⟨Nat.le_of_ble_eq_true rfl, Nat.le_of_ble_eq_true rfl⟩) preEq rfl rfl hl.1 rfl (lv_room (Nat.le_of_ble_eq_true rfl)) d_T_noteChange_12 ⟨Nat.zero_le _, Nat.zero_le _⟩)) (fun r7 hr7 => ?_)
    subst hr7
    refine lv_if_eq hx hb d_T_noteChange_15 rfl (fun h7 => ?_) (fun h7 => ?_)
    · have h6 : bt (xR z) j = false := bI_ne.mp h7
      exact W.vret hx hb hr (fun t ht hW => ⟨⟨z, rfl, by unfold tNote; rw [h6, Bool.and_false, if_neg (by decide)], by show va_P (dC, dI) vwC _ t.heap; rw [ht]; exact hP⟩, hS.F ht⟩) hS.2.2 d_T_noteChange_23
    · have h6 : bt (xR z) j = true := by cases hc : bt (xR z) j; exact absurd (bI_ne.mpr hc) h7; rfl
      refine lv_aload_n hx hb d_T_noteChange_18 rfl (lv_at hl 0 rfl) ?_
      refine lv_iconst (v := bI true) hx hb d_T_noteChange_19 (by decide) ?_
      refine va_put (D := (dC, dI)) (ci := 0) (v := .int (bI true)) (ty := .boolean) (C := R_T) (T := F_T) (N := 6) hx hb hB in_T tf_T ty_T nm_T hown hK hP hD hS 0 rfl rfl 1 (by decide) (hB _ bw_42) (fun _ h9 => h9) rfl (by decide +kernel) (bI_nar _) (bI_fit _) (Nat.le_of_ble_eq_true rfl) d_T_noteChange_20 (fun H locs hP hD hS => ?_)
      have hP : va_P (dC, dI) vwC (tW k a (xO z, true, z.2.2)) H := hP
      have hD : va_D A (tW k a (xO z, true, z.2.2)) := hD
      exact W.vret hx hb hr (fun t ht hW => ⟨⟨(xO z, true, z.2.2), rfl, by unfold tNote; rw [h6, h8]; rfl, by show va_P (dC, dI) vwC _ t.heap; rw [ht]; exact hP⟩, hS.F ht⟩) hS.2.2 d_T_noteChange_23
end
section
/-! Integer.bitCount, from the machine's numbers to the sum of bits; its contract follows in the next part. -/
abbrev bN (x : Int32) : Nat := x.toBitVec.toNat
abbrev us (x : Int32) (k : Nat) : Int32 := (x.toUInt32 >>> ((nI k).toUInt32 &&& Int32.toUInt32 31)).toInt32
theorem bN_lt (x : Int32) : bN x < 2 ^ 32 := x.toBitVec.isLt
theorem bN_inj {x y : Int32} (h : bN x = bN y) : x = y := Int32.toBitVec_inj.mp (BitVec.eq_of_toNat_eq h)
theorem bN_and (x y : Int32) : bN (x &&& y) = bN x &&& bN y := by show (x &&& y).toBitVec.toNat = _; rw [Int32.toBitVec_and, BitVec.toNat_and]
theorem bN_add {x y : Int32} (h : bN x + bN y < 2 ^ 32) : bN (x + y) = bN x + bN y := by
  show (x + y).toBitVec.toNat = _
  rw [Int32.toBitVec_add, BitVec.toNat_add, Nat.mod_eq_of_lt h]
theorem bN_sub {x y : Int32} (h : bN y ≤ bN x) : bN (x - y) = bN x - bN y := by
  show (x - y).toBitVec.toNat = _
  have h1 := bN_lt x
  have h2 := bN_lt y
  rw [Int32.toBitVec_sub, BitVec.toNat_sub]
  show (2 ^ 32 - bN y + bN x) % 2 ^ 32 = bN x - bN y
  omega
theorem us_1 (x : Int32) : bN (us x 1) = bN x / 2 := pk_ushr x (nI 1) 1 (by decide +kernel)
theorem us_2 (x : Int32) : bN (us x 2) = bN x / 4 := pk_ushr x (nI 2) 2 (by decide +kernel)
theorem us_4 (x : Int32) : bN (us x 4) = bN x / 16 := pk_ushr x (nI 4) 4 (by decide +kernel)
theorem us_8 (x : Int32) : bN (us x 8) = bN x / 256 := pk_ushr x (nI 8) 8 (by decide +kernel)
theorem us_16 (x : Int32) : bN (us x 16) = bN x / 65536 := pk_ushr x (nI 16) 16 (by decide +kernel)
theorem bc_fin {x i1 i2 i3 i4 i5 : Int32} (e1 : i1 = x - (us x 1 &&& 1431655765)) (e2 : i2 = (i1 &&& 858993459) + (us i1 2 &&& 858993459)) (e3 : i3 = (i2 + us i2 4) &&& 252645135) (e4 : i4 = i3 + us i3 8) (e5 : i5 = i4 + us i4 16) : i5 &&& nI 63 = nI (bCnt x 32) := by
  have c1 : bN 1431655765 = 1431655765 := by decide +kernel
  have c2 : bN 858993459 = 858993459 := by decide +kernel
  have c3 : bN 252645135 = 252645135 := by decide +kernel
  have h1 : bN i1 = bc1 (bN x) 1431655765 := by
    have hle : bN (us x 1 &&& 1431655765) ≤ bN x := by
      rw [bN_and, us_1]
      exact Nat.le_trans Nat.and_le_left (Nat.div_le_self _ _)
    rw [e1, bN_sub hle, bN_and, us_1, c1]
    rfl
  have h2 : bN i2 = bc2 (bN i1) 858993459 := by
    have a1 : bN (i1 &&& 858993459) ≤ 858993459 := by rw [bN_and, c2]; exact Nat.and_le_right
    have a2 : bN (us i1 2 &&& 858993459) ≤ 858993459 := by rw [bN_and, c2]; exact Nat.and_le_right
    rw [e2, bN_add (by omega), bN_and, bN_and, us_2, c2]
    rfl
  have b2 : bN i2 ≤ 1717986918 := by
    rw [h2]
    unfold bc2
    have a1 : bN i1 &&& 858993459 ≤ 858993459 := Nat.and_le_right
    have a2 : bN i1 / 4 &&& 858993459 ≤ 858993459 := Nat.and_le_right
    omega
  have h3 : bN i3 = bc3 (bN i2) 252645135 := by
    rw [e3, bN_and, bN_add (by rw [us_4]; omega), us_4, c3]
    rfl
  rw [h2, h1, bc_four (bN_lt x)] at h3
  have hx := bN_lt x
  obtain ⟨-, -, -, -, -, -, p0⟩ := bc_byte (bN x % 256) (by omega)
  obtain ⟨-, -, -, -, -, -, p1⟩ := bc_byte (bN x / 256 % 256) (by omega)
  obtain ⟨-, -, -, -, -, -, p2⟩ := bc_byte (bN x / 65536 % 256) (by omega)
  obtain ⟨-, -, -, -, -, -, p3⟩ := bc_byte (bN x / 16777216) (by omega)
  have hc : bCnt x 32 = bcB (bN x % 256) + bcB (bN x / 256 % 256) + bcB (bN x / 65536 % 256) + bcB (bN x / 16777216) := bc_cnt x
  generalize bcB (bN x % 256) = q0 at *
  generalize bcB (bN x / 256 % 256) = q1 at *
  generalize bcB (bN x / 65536 % 256) = q2 at *
  generalize bcB (bN x / 16777216) = q3 at *
  have h4 : bN i4 = bN i3 + bN i3 / 256 := by rw [e4, bN_add (by rw [us_8]; omega), us_8]
  have h5 : bN i5 = bN i4 + bN i4 / 65536 := by rw [e5, bN_add (by rw [us_16]; omega), us_16]
  apply bN_inj
  have h6 : bN (nI 63) = 2 ^ 6 - 1 := by decide +kernel
  rw [bN_and, h6, Nat.and_two_pow_sub_one_eq_mod, hc]
  have h7 : bN (nI (q0 + q1 + q2 + q3)) = q0 + q1 + q2 + q3 := pk_tn (by omega)
  rw [h7]
  have d1 : bN i3 / 256 = 65536 * q3 + 256 * q2 + q1 := by omega
  have d2 : bN i4 = 65536 * (257 * q3 + q2) + (256 * (q2 + q1) + (q1 + q0)) := by omega
  have d3 : bN i4 / 65536 = 257 * q3 + q2 := by omega
  have d4 : bN i5 = 64 * (1024 * (257 * q3 + q2) + 4 * (q2 + q1) + 4 * q3) + (q0 + q1 + q2 + q3) := by omega
  rw [d4]
  omega
end
section
/-! Integer.bitCount; the rest of the nested class. -/
set_option maxHeartbeats 4000000 in
set_option maxRecDepth 100000 in
theorem m_J_bitCount (l : Launch) (x : Int32) : Met l y_J_bitCount w_J_bitCount (rmx 0 0 0 0) (fun v _ => v = ([.int x] : List Value).toArray) (vp_Si (fun r => r = nI (bCnt x 32))) 0 0 (fun _ => False) := by
  refine Met.ofW (cc := c_J_bitCount) (maxL := 1) (ret := (some .int)) (by decide) rfl ?_
  intro p e s m args below meth c s₁ B hml hv
  obtain rfl := hv
  have hx := B.exec
  have hb := B.bytes
  have hr := B.returns
  have hts := atoms_spec (ws := w_J_bitCount) B.pre
  have hB : ∀ w ∈ BIG, w.before _ s = true := fun w h => hts w (List.mem_cons_of_mem _ h)
  have hown : s.vm.findClass R_J = some m.cls := findClass_of_methodNamed B.named
  have hlocks := B.notSynchronized
  have hl := lv_entry ([.int x]) (n := 1) (Nat.le_of_ble_eq_true rfl)
  rw [lg_entry_eq]
  generalize (lg_sl ([.int x]) ++ List.replicate (1 - (lg_sl ([.int x])).length) Slot.unset).toArray = ls at hl ⊢
  have hl : lv_has ls 1 [(0, .int x)] := hl
  refine lv_iload_n hx hb d_J_bitCount_0 rfl (lv_at hl 0 rfl) ?_
  refine lv_iload_n hx hb d_J_bitCount_1 rfl (lv_at hl 0 rfl) ?_
  refine lv_iconst (v := nI 1) hx hb d_J_bitCount_2 (by decide) ?_
  refine lv_iushr (v := us x 1) hx hb d_J_bitCount_3 rfl ?_
  refine lv_ldcw hx hb hown (hB _ bw_332) d_J_bitCount_4 ?_
  refine lv_iand hx hb d_J_bitCount_7 ?_
  refine lv_isub hx hb d_J_bitCount_8 ?_
  refine lv_topi (fun i1 e1 => ?_)
  refine lv_istore_n hx hb d_J_bitCount_9 rfl hl (by decide) rfl (fun ls hl => ?_)
  have hl : lv_has ls 1 [(0, .int i1)] := hl
  refine lv_iload_n hx hb d_J_bitCount_10 rfl (lv_at hl 0 rfl) ?_
  refine lv_ldcw hx hb hown (hB _ bw_333) d_J_bitCount_11 ?_
  refine lv_iand hx hb d_J_bitCount_14 ?_
  refine lv_iload_n hx hb d_J_bitCount_15 rfl (lv_at hl 0 rfl) ?_
  refine lv_iconst (v := nI 2) hx hb d_J_bitCount_16 (by decide) ?_
  refine lv_iushr (v := us i1 2) hx hb d_J_bitCount_17 rfl ?_
  refine lv_ldcw hx hb hown (hB _ bw_333) d_J_bitCount_18 ?_
  refine lv_iand hx hb d_J_bitCount_21 ?_
  refine lv_iadd hx hb d_J_bitCount_22 ?_
  refine lv_topi (fun i2 e2 => ?_)
  refine lv_istore_n hx hb d_J_bitCount_23 rfl hl (by decide) rfl (fun ls hl => ?_)
  have hl : lv_has ls 1 [(0, .int i2)] := hl
  refine lv_iload_n hx hb d_J_bitCount_24 rfl (lv_at hl 0 rfl) ?_
  refine lv_iload_n hx hb d_J_bitCount_25 rfl (lv_at hl 0 rfl) ?_
  refine lv_iconst (v := nI 4) hx hb d_J_bitCount_26 (by decide) ?_
  refine lv_iushr (v := us i2 4) hx hb d_J_bitCount_27 rfl ?_
  refine lv_iadd hx hb d_J_bitCount_28 ?_
  refine lv_ldcw hx hb hown (hB _ bw_334) d_J_bitCount_29 ?_
  refine lv_iand hx hb d_J_bitCount_32 ?_
  refine lv_topi (fun i3 e3 => ?_)
  refine lv_istore_n hx hb d_J_bitCount_33 rfl hl (by decide) rfl (fun ls hl => ?_)
  have hl : lv_has ls 1 [(0, .int i3)] := hl
  refine lv_iload_n hx hb d_J_bitCount_34 rfl (lv_at hl 0 rfl) ?_
  refine lv_iload_n hx hb d_J_bitCount_35 rfl (lv_at hl 0 rfl) ?_
  refine lv_bipush (v := nI 8) hx hb d_J_bitCount_36 (by decide) ?_
  refine lv_iushr (v := us i3 8) hx hb d_J_bitCount_38 rfl ?_
  refine lv_iadd hx hb d_J_bitCount_39 ?_
  refine lv_topi (fun i4 e4 => ?_)
  refine lv_istore_n hx hb d_J_bitCount_40 rfl hl (by decide) rfl (fun ls hl => ?_)
  have hl : lv_has ls 1 [(0, .int i4)] := hl
  refine lv_iload_n hx hb d_J_bitCount_41 rfl (lv_at hl 0 rfl) ?_
  refine lv_iload_n hx hb d_J_bitCount_42 rfl (lv_at hl 0 rfl) ?_
  refine lv_bipush (v := nI 16) hx hb d_J_bitCount_43 (by decide) ?_
  refine lv_iushr (v := us i4 16) hx hb d_J_bitCount_45 rfl ?_
  refine lv_iadd hx hb d_J_bitCount_46 ?_
  refine lv_topi (fun i5 e5 => ?_)
  refine lv_istore_n hx hb d_J_bitCount_47 rfl hl (by decide) rfl (fun ls hl => ?_)
  have hl : lv_has ls 1 [(0, .int i5)] := hl
  refine lv_iload_n hx hb d_J_bitCount_48 rfl (lv_at hl 0 rfl) ?_
  refine lv_bipush (v := nI 63) hx hb d_J_bitCount_49 (by decide) ?_
  refine lv_iand hx hb d_J_bitCount_51 ?_
  exact W.iret (v := i5 &&& (nI 63)) hx hb hr (fun t ht hW => ⟨_, rfl, bc_fin e1 e2 e3 e4 e5, ht⟩) (fun q h => nomatch h) d_J_bitCount_52
set_option maxHeartbeats 4000000 in
set_option maxRecDepth 100000 in
theorem m_T_readCount (l : Launch) (dC : Nat → ClassId) (dI : Nat → Nat → Nat) (k : Nat → ClassId) (a : Nat → Nat) (z : xTS) : Met l y_T_readCount w_T_readCount (rmx 1 0 0 32) (tRc dC dI k a z [.ref (a 0)]) (vp_Si (fun r => r = nI (bCnt (xR z) 32))) 0 0 (fun _ => False) := by
  refine Met.ofW (cc := c_T_readCount) (maxL := 1) (ret := (some .int)) (by decide) rfl ?_
  intro p e s m args below meth c s₁ B hml hv
  obtain ⟨rfl, hP, hK⟩ := hv
  have hx := B.exec
  have hb := B.bytes
  have hr := B.returns
  have hts := atoms_spec (ws := w_T_readCount) B.pre
  have hB : ∀ w ∈ BIG, w.before _ s = true := fun w h => hts w (List.mem_cons_of_mem _ h)
  have hown : s.vm.findClass R_T = some m.cls := findClass_of_methodNamed B.named
  have hlocks := B.notSynchronized
  have hl := lv_entry ([.ref (a 0)]) (n := 1) (Nat.le_of_ble_eq_true rfl)
  rw [lg_entry_eq]
  generalize (lg_sl ([.ref (a 0)]) ++ List.replicate (1 - (lg_sl ([.ref (a 0)])).length) Slot.unset).toArray = ls at hl ⊢
  have hl : lv_has ls 1 [(0, .ref (a 0))] := hl
  refine lv_aload_n hx hb d_T_readCount_0 rfl (lv_at hl 0 rfl) ?_
  refine va_get (D := (dC, dI)) (ci := 0) (v := .int (xR z)) (C := R_T) (T := F_T) (N := 6) hx hb hB in_T hown hK hP 0 rfl rfl 2 (by decide) (hB _ bw_43) (fun _ h9 => h9) rfl d_T_readCount_1 ?_
  refine vp_callSi (va_Run.run (va_runS (As := [.int (xR z)]) (rest := []) ⟨hx, hb, hml, hown, hB⟩ (m_J_bitCount l (xR z)) (va_cwS 1 hB (BIG_SS bw_329 bw_330 bw_26 bw_331) rfl rfl rfl ⟨by decide, by decide, by decide +kernel⟩ ⟨Nat.le_of_ble_eq_true rfl, Nat.le_of_ble_eq_true rfl⟩) preEq rfl rfl hl.1 rfl (lv_room (Nat.le_of_ble_eq_true rfl)) d_T_readCount_4 ⟨Nat.zero_le _, Nat.zero_le _⟩)) (fun r7 hr7 => ?_)
  exact W.iret (v := r7) hx hb hr (fun t ht hW => ⟨_, rfl, hr7, ht⟩) (fun q h => nomatch h) d_T_readCount_7
set_option maxHeartbeats 4000000 in
set_option maxRecDepth 100000 in
theorem m_T_writtenIn (l : Launch) (dC : Nat → ClassId) (dI : Nat → Nat → Nat) (k : Nat → ClassId) (a : Nat → Nat) (z : xTS) (j i : Nat) (hj : j < 5) (hi : i < 32) : Met l y_T_writtenIn w_T_writtenIn (rmx 0 0 0 0) (tRc dC dI k a z [.ref (a 0), .int (nI j), .int (nI i)]) (vp_Sl (fun r => r = xV z j i)) 0 0 (fun _ => False) := by
  refine Met.ofW (cc := c_T_writtenIn) (maxL := 3) (ret := (some .long)) (by decide) rfl ?_
  intro p e s m args below meth c s₁ B hml hv
  obtain ⟨rfl, hP, hK⟩ := hv
  have hx := B.exec
  have hb := B.bytes
  have hr := B.returns
  have hts := atoms_spec (ws := w_T_writtenIn) B.pre
  have hB : ∀ w ∈ BIG, w.before _ s = true := fun w h => hts w (List.mem_cons_of_mem _ h)
  have hown : s.vm.findClass R_T = some m.cls := findClass_of_methodNamed B.named
  have hlocks := B.notSynchronized
  have hl := lv_entry ([.ref (a 0), .int (nI j), .int (nI i)]) (n := 3) (Nat.le_of_ble_eq_true rfl)
  rw [lg_entry_eq]
  generalize (lg_sl ([.ref (a 0), .int (nI j), .int (nI i)]) ++ List.replicate (3 - (lg_sl ([.ref (a 0), .int (nI j), .int (nI i)])).length) Slot.unset).toArray = ls at hl ⊢
  have hl : lv_has ls 3 [(0, .ref (a 0)), (1, .int (nI j)), (2, .int (nI i))] := hl
  refine lv_aload_n hx hb d_T_writtenIn_0 rfl (lv_at hl 0 rfl) ?_
  refine va_get (D := (dC, dI)) (ci := 0) (v := .ref (a 2)) (C := R_T) (T := F_T) (N := 6) hx hb hB in_T hown hK hP 0 rfl rfl 5 (by decide) (hB _ bw_46) (fun _ h9 => h9) rfl d_T_writtenIn_1 ?_
  refine lv_iload_n hx hb d_T_writtenIn_4 rfl (lv_at hl 1 rfl) ?_
  refine xa_aald (r := a (3 + j)) hx hb hK hP 2 2 rfl rfl (pk_in j 5 hj) (by rw [cl_nI (by omega)]) d_T_writtenIn_5 ?_
  refine lv_iload_n hx hb d_T_writtenIn_6 rfl (lv_at hl 2 rfl) ?_
  refine va_lald hx hb hK hP (3 + j) 1 (tW_row hj) rfl (pk_in i 32 hi) d_T_writtenIn_7 ?_
  refine W.eq (g2 := F0 m 8 ls [.long (xV z j i)]) (by rw [cl_nI (by omega)]) ?_
  exact W.lret (v := xV z j i) hx hb hr (fun t ht hW => ⟨_, rfl, rfl, ht⟩) (fun q h => nomatch h) d_T_writtenIn_8
set_option maxHeartbeats 4000000 in
set_option maxRecDepth 100000 in
theorem m_T_writtenCount (l : Launch) (dC : Nat → ClassId) (dI : Nat → Nat → Nat) (k : Nat → ClassId) (a : Nat → Nat) (z : xTS) (hp : xP z ≤ 5) : Met l y_T_writtenCount w_T_writtenCount (rmx 1 0 0 32) (tRc dC dI k a z [.ref (a 0)]) (vp_Si (fun r => r = nI (bCnt (tAll (xW z) (xP z)) 32))) 0 0 (fun _ => False) := by
  refine Met.ofW (cc := c_T_writtenCount) (maxL := 3) (ret := (some .int)) (by decide) rfl ?_
  intro p e s m args below meth c s₁ B hml hv
  obtain ⟨rfl, hP, hK⟩ := hv
  have hx := B.exec
  have hb := B.bytes
  have hr := B.returns
  have hts := atoms_spec (ws := w_T_writtenCount) B.pre
  have hB : ∀ w ∈ BIG, w.before _ s = true := fun w h => hts w (List.mem_cons_of_mem _ h)
  have hown : s.vm.findClass R_T = some m.cls := findClass_of_methodNamed B.named
  have hlocks := B.notSynchronized
  have hl := lv_entry ([.ref (a 0)]) (n := 3) (Nat.le_of_ble_eq_true rfl)
  rw [lg_entry_eq]
  generalize (lg_sl ([.ref (a 0)]) ++ List.replicate (3 - (lg_sl ([.ref (a 0)])).length) Slot.unset).toArray = ls at hl ⊢
  have hl : lv_has ls 3 [(0, .ref (a 0))] := hl
  refine lv_iconst (v := nI 0) hx hb d_T_writtenCount_0 (by decide) ?_
  refine W.eq (g2 := F0 m 1 ls [.int (tAll (xW z) 0)]) rfl ?_
  refine lv_istore_n hx hb d_T_writtenCount_1 rfl hl (by decide) rfl (fun ls hl => ?_)
  have hl : lv_has ls 3 [(1, .int (tAll (xW z) 0)), (0, .ref (a 0))] := hl
  refine lv_iconst (v := nI 0) hx hb d_T_writtenCount_2 (by decide) ?_
  refine lv_istore_n hx hb d_T_writtenCount_3 rfl hl (by decide) rfl (fun ls hl => ?_)
  have hl : lv_has ls 3 [(2, .int (nI 0)), (1, .int (tAll (xW z) 0)), (0, .ref (a 0))] := hl
  suffices key : ∀ n i (ls : Array Slot), i ≤ xP z → xP z - i = n → lv_has ls 3 [(2, .int (nI i)), (1, .int (tAll (xW z) i)), (0, .ref (a 0))] → W p l e _ s m _ below meth c s.heap [] 0 0 (MQ below (vp_Si (fun r => r = nI (bCnt (tAll (xW z) (xP z)) 32))) _ s 0 0 (fun _ => False)) (F0 m 4 ls []) from key _ 0 ls (Nat.zero_le _) rfl hl
  intro n
  induction n with
  | zero =>
    intro i ls hi hn hl
    have hie : i = xP z := by omega
    subst hie
    refine lv_iload_n hx hb d_T_writtenCount_4 rfl (lv_at hl 0 rfl) ?_
    refine lv_aload_n hx hb d_T_writtenCount_5 rfl (lv_at hl 2 rfl) ?_
    refine va_get (D := (dC, dI)) (ci := 0) (v := .int (nI (xP z))) (C := R_T) (T := F_T) (N := 6) hx hb hB in_T hown hK hP 0 rfl rfl 3 (by decide) (hB _ bw_44) (fun _ h9 => h9) rfl d_T_writtenCount_6 ?_
    refine lv_icmp_ge hx hb d_T_writtenCount_9 rfl (fun _ => ?_) (fun h9 => absurd (nI_le (Nat.le_refl _) (by omega)) h9)
    refine lv_iload_n hx hb d_T_writtenCount_27 rfl (lv_at hl 1 rfl) ?_
    refine vp_callSi (va_Run.run (va_runS (As := [.int (tAll (xW z) (xP z))]) (rest := []) ⟨hx, hb, hml, hown, hB⟩ (m_J_bitCount l (tAll (xW z) (xP z))) (va_cwS 1 hB (BIG_SS bw_329 bw_330 bw_26 bw_331) rfl rfl rfl ⟨by decide, by decide, by decide +kernel⟩ ⟨Nat.le_of_ble_eq_true rfl, Nat.le_of_ble_eq_true rfl⟩) preEq rfl rfl hl.1 rfl (lv_room (Nat.le_of_ble_eq_true rfl)) d_T_writtenCount_28 ⟨Nat.zero_le _, Nat.zero_le _⟩)) (fun r7 hr7 => ?_)
    exact W.iret (v := r7) hx hb hr (fun t ht hW => ⟨_, rfl, hr7, ht⟩) (fun q h => nomatch h) d_T_writtenCount_31
  | succ n ih =>
    intro i ls hi hn hl
    have hlt : i < xP z := by omega
    refine lv_iload_n hx hb d_T_writtenCount_4 rfl (lv_at hl 0 rfl) ?_
    refine lv_aload_n hx hb d_T_writtenCount_5 rfl (lv_at hl 2 rfl) ?_
    refine va_get (D := (dC, dI)) (ci := 0) (v := .int (nI (xP z))) (C := R_T) (T := F_T) (N := 6) hx hb hB in_T hown hK hP 0 rfl rfl 3 (by decide) (hB _ bw_44) (fun _ h9 => h9) rfl d_T_writtenCount_6 ?_
    refine lv_icmp_ge hx hb d_T_writtenCount_9 rfl (fun h9 => absurd h9 (nI_ge hlt (by omega))) (fun _ => ?_)
    refine lv_iload_n hx hb d_T_writtenCount_12 rfl (lv_at hl 1 rfl) ?_
    refine lv_aload_n hx hb d_T_writtenCount_13 rfl (lv_at hl 2 rfl) ?_
    refine va_get (D := (dC, dI)) (ci := 0) (v := .ref (a 1)) (C := R_T) (T := F_T) (N := 6) hx hb hB in_T hown hK hP 0 rfl rfl 4 (by decide) (hB _ bw_45) (fun _ h9 => h9) rfl d_T_writtenCount_14 ?_
    refine lv_iload_n hx hb d_T_writtenCount_17 rfl (lv_at hl 0 rfl) ?_
    refine va_iald hx hb hK hP 1 0 rfl rfl (pk_in i 5 (by omega)) d_T_writtenCount_18 ?_
    refine W.eq (g2 := F0 m 19 ls [.int (xW z i), .int (tAll (xW z) i)]) (by rw [cl_nI (by omega)]) ?_
    refine lv_ior hx hb d_T_writtenCount_19 ?_
    refine W.eq (g2 := F0 m 20 ls [.int (tAll (xW z) (i + 1))]) rfl ?_
    refine lv_istore_n hx hb d_T_writtenCount_20 rfl hl (by decide) rfl (fun ls hl => ?_)
    have hl : lv_has ls 3 [(1, .int (tAll (xW z) (i + 1))), (2, .int (nI i)), (0, .ref (a 0))] := hl
    refine lv_iinc (k := 1) (v := nI (i + 1)) hx hb d_T_writtenCount_21 hl rfl (nI_1 i) (by decide) rfl (fun ls hl => ?_)
    have hl : lv_has ls 3 [(2, .int (nI (i + 1))), (1, .int (tAll (xW z) (i + 1))), (0, .ref (a 0))] := hl
    refine lv_goto hx hb d_T_writtenCount_24 rfl ?_
    exact ih (i + 1) ls (by omega) (by omega) hl
set_option maxHeartbeats 4000000 in
set_option maxRecDepth 100000 in
theorem m_T_lastPartWith (l : Launch) (dC : Nat → ClassId) (dI : Nat → Nat → Nat) (k : Nat → ClassId) (a : Nat → Nat) (z : xTS) (j : Nat) (hj : j < 32) (hp : xP z ≤ 5) : Met l y_T_lastPartWith w_T_lastPartWith (rmx 1 0 0 32) (tRc dC dI k a z [.ref (a 0), .int (nI j)]) (vp_Si (fun r => r = lastI (lastW (xW z) j (xP z)))) 0 0 (fun _ => False) := by
  refine Met.ofW (cc := c_T_lastPartWith) (maxL := 3) (ret := (some .int)) (by decide) rfl ?_
  intro p e s m args below meth c s₁ B hml hv
  obtain ⟨rfl, hP, hK⟩ := hv
  have hx := B.exec
  have hb := B.bytes
  have hr := B.returns
  have hts := atoms_spec (ws := w_T_lastPartWith) B.pre
  have hB : ∀ w ∈ BIG, w.before _ s = true := fun w h => hts w (List.mem_cons_of_mem _ h)
  have hown : s.vm.findClass R_T = some m.cls := findClass_of_methodNamed B.named
  have hlocks := B.notSynchronized
  have hl := lv_entry ([.ref (a 0), .int (nI j)]) (n := 3) (Nat.le_of_ble_eq_true rfl)
  rw [lg_entry_eq]
  generalize (lg_sl ([.ref (a 0), .int (nI j)]) ++ List.replicate (3 - (lg_sl ([.ref (a 0), .int (nI j)])).length) Slot.unset).toArray = ls at hl ⊢
  have hl : lv_has ls 3 [(0, .ref (a 0)), (1, .int (nI j))] := hl
  refine lv_aload_n hx hb d_T_lastPartWith_0 rfl (lv_at hl 0 rfl) ?_
  refine va_get (D := (dC, dI)) (ci := 0) (v := .int (nI (xP z))) (C := R_T) (T := F_T) (N := 6) hx hb hB in_T hown hK hP 0 rfl rfl 3 (by decide) (hB _ bw_44) (fun _ h9 => h9) rfl d_T_lastPartWith_1 ?_
  refine lv_iconst (v := nI 1) hx hb d_T_lastPartWith_4 (by decide) ?_
  refine lv_isub hx hb d_T_lastPartWith_5 ?_
  suffices key : ∀ n (ls : Array Slot), n ≤ xP z → lastW (xW z) j n = lastW (xW z) j (xP z) → lv_has ls 3 [(2, .int (nI n - 1)), (0, .ref (a 0)), (1, .int (nI j))] → W p l e _ s m _ below meth c s.heap [] 0 0 (MQ below (vp_Si (fun r => r = lastI (lastW (xW z) j (xP z)))) _ s 0 0 (fun _ => False)) (F0 m 7 ls []) from by
    refine W.eq (g2 := F0 m 6 ls [.int (nI (xP z) - 1)]) rfl ?_
    refine lv_istore_n hx hb d_T_lastPartWith_6 rfl hl (by decide) rfl (fun ls hl => ?_)
    have hl : lv_has ls 3 [(2, .int (nI (xP z) - 1)), (0, .ref (a 0)), (1, .int (nI j))] := hl
    exact key _ ls (Nat.le_refl _) rfl hl
  intro n
  induction n with
  | zero =>
    intro ls hn he hl
    refine lv_iload_n hx hb d_T_lastPartWith_7 rfl (lv_at hl 0 rfl) ?_
    refine lv_if_lt hx hb d_T_lastPartWith_8 rfl (fun _ => ?_) (fun h9 => absurd (by decide) h9)
    refine lv_iconst (v := -1) hx hb d_T_lastPartWith_32 (by decide) ?_
    exact W.iret (v := -1) hx hb hr (fun t ht hW => ⟨_, rfl, by rw [← he]; rfl, ht⟩) (fun q h => nomatch h) d_T_lastPartWith_33
  | succ n ih =>
    intro ls hn he hl
    rw [nI_pred] at hl
    refine lv_iload_n hx hb d_T_lastPartWith_7 rfl (lv_at hl 0 rfl) ?_
    refine lv_if_lt hx hb d_T_lastPartWith_8 rfl (fun h9 => absurd h9 (nI_pos (by omega))) (fun _ => ?_)
    refine lv_aload_n hx hb d_T_lastPartWith_11 rfl (lv_at hl 1 rfl) ?_
    refine va_get (D := (dC, dI)) (ci := 0) (v := .ref (a 1)) (C := R_T) (T := F_T) (N := 6) hx hb hB in_T hown hK hP 0 rfl rfl 4 (by decide) (hB _ bw_45) (fun _ h9 => h9) rfl d_T_lastPartWith_12 ?_
    refine lv_iload_n hx hb d_T_lastPartWith_15 rfl (lv_at hl 0 rfl) ?_
    refine va_iald hx hb hK hP 1 0 rfl rfl (pk_in n 5 (by omega)) d_T_lastPartWith_16 ?_
    refine W.eq (g2 := F0 m 17 ls [.int (xW z n)]) (by rw [cl_nI (by omega)]) ?_
    refine lv_iload_n hx hb d_T_lastPartWith_17 rfl (lv_at hl 2 rfl) ?_
    refine vp_callSi (va_Run.run (va_runS (As := [.int (xW z n), .int (nI j)]) (rest := []) ⟨hx, hb, hml, hown, hB⟩ (m_T_holds l (xW z n) j hj) (va_cwS 2 hB (BIG_SS bw_185 bw_186 bw_17 bw_187) rfl rfl rfl ⟨by decide, by decide, by decide +kernel⟩ ⟨Nat.le_of_ble_eq_true rfl, Nat.le_of_ble_eq_true rfl⟩) preEq rfl rfl hl.1 rfl (lv_room (Nat.le_of_ble_eq_true rfl)) d_T_lastPartWith_18 ⟨Nat.zero_le _, Nat.zero_le _⟩)) (fun r7 hr7 => ?_)
    subst hr7
    refine lv_if_eq hx hb d_T_lastPartWith_21 rfl (fun h9 => ?_) (fun h9 => ?_)
    · have h8 : bt (xW z n) j = false := bI_ne.mp h9
      refine lv_iinc (k := 0) (v := nI n - 1) hx hb d_T_lastPartWith_26 hl rfl (by rw [Int32.sub_eq_add_neg]; rfl) (by decide) rfl (fun ls hl => ?_)
      have hl : lv_has ls 3 [(2, .int (nI n - 1)), (0, .ref (a 0)), (1, .int (nI j))] := hl
      refine lv_goto hx hb d_T_lastPartWith_29 rfl ?_
      exact ih ls (by omega) (by rw [← he, lastW_s, h8, if_neg (by decide)]) hl
    · have h8 : bt (xW z n) j = true := by cases hc : bt (xW z n) j; exact absurd (bI_ne.mpr hc) h9; rfl
      refine lv_iload_n hx hb d_T_lastPartWith_24 rfl (lv_at hl 0 rfl) ?_
      exact W.iret (v := nI n) hx hb hr (fun t ht hW => ⟨_, rfl, by rw [← he, lastW_s, h8, if_pos rfl]; rfl, ht⟩) (fun q h => nomatch h) d_T_lastPartWith_25
set_option maxHeartbeats 4000000 in
set_option maxRecDepth 100000 in
theorem m_T_addPart (l : Launch) (dC : Nat → ClassId) (dI : Nat → Nat → Nat) (k : Nat → ClassId) (a : Nat → Nat) (sz : Nat) (z : xTS) (hp : xP z < 5) : Met l y_T_addPart w_T_addPart (rmx 0 0 0 0) (tPc dC dI k a sz z [.ref (a 0)]) (va_Qv (fun u : xTS => u = tAdd z) (tB dC dI k a) (va_A (tW k a z) sz)) 0 0 (va_A (tW k a z) sz) := by
  refine Met.ofW (cc := c_T_addPart) (maxL := 1) (ret := none) (by decide) rfl ?_
  intro p e s m args below meth c s₁ B hml hv
  obtain ⟨rfl, hsz, hP, hK, hD0⟩ := hv
  have hx := B.exec
  have hb := B.bytes
  have hr := B.returns
  have hts := atoms_spec (ws := w_T_addPart) B.pre
  have hB : ∀ w ∈ BIG, w.before _ s = true := fun w h => hts w (List.mem_cons_of_mem _ h)
  have hown : s.vm.findClass R_T = some m.cls := findClass_of_methodNamed B.named
  have hlocks := B.notSynchronized
  have hl := lv_entry ([.ref (a 0)]) (n := 1) (Nat.le_of_ble_eq_true rfl)
  rw [lg_entry_eq]
  generalize (lg_sl ([.ref (a 0)]) ++ List.replicate (1 - (lg_sl ([.ref (a 0)])).length) Slot.unset).toArray = ls at hl ⊢
  have hl : lv_has ls 1 [(0, .ref (a 0))] := hl
  subst hsz
  have hD := hD0.self (sz := s.heap.size)
  generalize hAe : va_A (tW k a z) s.heap.size = A at hD ⊢
  have hA : ∀ q : Nat, s.heap.size ≤ q → A q := fun q h => by rw [← hAe]; exact Or.inr h
  have hS : va_S A s.heap s.heap [] := va_S.rf
  refine lv_aload_n hx hb d_T_addPart_0 rfl (lv_at hl 0 rfl) ?_
  refine va_get (D := (dC, dI)) (ci := 0) (v := .ref (a 1)) (C := R_T) (T := F_T) (N := 6) hx hb hB in_T hown hK hP 0 rfl rfl 4 (by decide) (hB _ bw_45) (fun _ h9 => h9) rfl d_T_addPart_1 ?_
  refine lv_aload_n hx hb d_T_addPart_4 rfl (lv_at hl 0 rfl) ?_
  refine va_get (D := (dC, dI)) (ci := 0) (v := .int (nI (xP z))) (C := R_T) (T := F_T) (N := 6) hx hb hB in_T hown hK hP 0 rfl rfl 3 (by decide) (hB _ bw_44) (fun _ h9 => h9) rfl d_T_addPart_5 ?_
  refine lv_iconst (v := 0) hx hb d_T_addPart_8 (by decide) ?_
  refine va_iast hx hb hK hP hD hS 1 0 rfl rfl (pk_in (xP z) 5 hp) d_T_addPart_9 (fun H locs hP hD hS => ?_)
  rw [cl_nI (by omega)] at hP hD
  have hP : va_P (dC, dI) vwC (tW k a (xO z, xS z, xR z, xP z, upd (xW z) (xP z) 0, xV z)) H := hP
  have hD : va_D A (tW k a (xO z, xS z, xR z, xP z, upd (xW z) (xP z) 0, xV z)) := hD
  refine lv_aload_n hx hb d_T_addPart_10 rfl (lv_at hl 0 rfl) ?_
  refine lv_dup hx hb d_T_addPart_11 rfl ?_
  refine va_get (D := (dC, dI)) (ci := 0) (v := .int (nI (xP (xO z, xS z, xR z, xP z, upd (xW z) (xP z) 0, xV z)))) (C := R_T) (T := F_T) (N := 6) hx hb hB in_T hown hK hP 0 rfl rfl 3 (by decide) (hB _ bw_44) (fun _ h9 => h9) rfl d_T_addPart_12 ?_
  refine lv_iconst (v := nI 1) hx hb d_T_addPart_15 (by decide) ?_
  refine lv_iadd hx hb d_T_addPart_16 ?_
  refine W.eq (g2 := F0 m 17 ls [.int (nI (xP z + 1)), .ref (a 0)]) (by show F0 m 17 ls [.int (nI (xP z) + nI 1), .ref (a 0)] = _; rw [nI_add]) ?_
  refine va_put (D := (dC, dI)) (ci := 0) (v := .int (nI (xP z + 1))) (ty := .int) (C := R_T) (T := F_T) (N := 6) hx hb hB in_T tf_T ty_T nm_T hown hK hP hD hS 0 rfl rfl 3 (by decide) (hB _ bw_44) (fun _ h9 => h9) rfl (by decide +kernel) (rfl) (rfl) (Nat.le_of_ble_eq_true rfl) d_T_addPart_17 (fun H locs hP hD hS => ?_)
  have hP : va_P (dC, dI) vwC (tW k a (tAdd z)) H := hP
  have hD : va_D A (tW k a (tAdd z)) := hD
  exact W.vret hx hb hr (fun t ht hW => ⟨⟨_, rfl, rfl, by show va_P (dC, dI) vwC _ t.heap; rw [ht]; exact hP⟩, hS.F ht⟩) hS.2.2 d_T_addPart_20
set_option maxHeartbeats 4000000 in
set_option maxRecDepth 100000 in
theorem m_T_dropLastPart (l : Launch) (dC : Nat → ClassId) (dI : Nat → Nat → Nat) (k : Nat → ClassId) (a : Nat → Nat) (sz : Nat) (z : xTS) (hp : 1 ≤ xP z) : Met l y_T_dropLastPart w_T_dropLastPart (rmx 0 0 0 0) (tPc dC dI k a sz z [.ref (a 0)]) (va_Qv (fun u : xTS => u = tDrop z) (tB dC dI k a) (va_A (tW k a z) sz)) 0 0 (va_A (tW k a z) sz) := by
  refine Met.ofW (cc := c_T_dropLastPart) (maxL := 1) (ret := none) (by decide) rfl ?_
  intro p e s m args below meth c s₁ B hml hv
  obtain ⟨rfl, hsz, hP, hK, hD0⟩ := hv
  have hx := B.exec
  have hb := B.bytes
  have hr := B.returns
  have hts := atoms_spec (ws := w_T_dropLastPart) B.pre
  have hB : ∀ w ∈ BIG, w.before _ s = true := fun w h => hts w (List.mem_cons_of_mem _ h)
  have hown : s.vm.findClass R_T = some m.cls := findClass_of_methodNamed B.named
  have hlocks := B.notSynchronized
  have hl := lv_entry ([.ref (a 0)]) (n := 1) (Nat.le_of_ble_eq_true rfl)
  rw [lg_entry_eq]
  generalize (lg_sl ([.ref (a 0)]) ++ List.replicate (1 - (lg_sl ([.ref (a 0)])).length) Slot.unset).toArray = ls at hl ⊢
  have hl : lv_has ls 1 [(0, .ref (a 0))] := hl
  subst hsz
  have hD := hD0.self (sz := s.heap.size)
  generalize hAe : va_A (tW k a z) s.heap.size = A at hD ⊢
  have hA : ∀ q : Nat, s.heap.size ≤ q → A q := fun q h => by rw [← hAe]; exact Or.inr h
  have hS : va_S A s.heap s.heap [] := va_S.rf
  refine lv_aload_n hx hb d_T_dropLastPart_0 rfl (lv_at hl 0 rfl) ?_
  refine lv_dup hx hb d_T_dropLastPart_1 rfl ?_
  refine va_get (D := (dC, dI)) (ci := 0) (v := .int (nI (xP z))) (C := R_T) (T := F_T) (N := 6) hx hb hB in_T hown hK hP 0 rfl rfl 3 (by decide) (hB _ bw_44) (fun _ h9 => h9) rfl d_T_dropLastPart_2 ?_
  refine lv_iconst (v := nI 1) hx hb d_T_dropLastPart_5 (by decide) ?_
  refine lv_isub hx hb d_T_dropLastPart_6 ?_
  refine W.eq (g2 := F0 m 7 ls [.int (nI (xP z - 1)), .ref (a 0)]) (by show F0 m 7 ls [.int (nI (xP z) - nI 1), .ref (a 0)] = _; rw [pk_sub hp]) ?_
  refine va_put (D := (dC, dI)) (ci := 0) (v := .int (nI (xP z - 1))) (ty := .int) (C := R_T) (T := F_T) (N := 6) hx hb hB in_T tf_T ty_T nm_T hown hK hP hD hS 0 rfl rfl 3 (by decide) (hB _ bw_44) (fun _ h9 => h9) rfl (by decide +kernel) (rfl) (rfl) (Nat.le_of_ble_eq_true rfl) d_T_dropLastPart_7 (fun H locs hP hD hS => ?_)
  have hP : va_P (dC, dI) vwC (tW k a (tDrop z)) H := hP
  have hD : va_D A (tW k a (tDrop z)) := hD
  exact W.vret hx hb hr (fun t ht hW => ⟨⟨_, rfl, rfl, by show va_P (dC, dI) vwC _ t.heap; rw [ht]; exact hP⟩, hS.F ht⟩) hS.2.2 d_T_dropLastPart_10
end
section
/-! The nested class: the methods that write a value or call. -/
set_option maxHeartbeats 4000000 in
set_option maxRecDepth 100000 in
theorem m_T_putInPart (l : Launch) (dC : Nat → ClassId) (dI : Nat → Nat → Nat) (k : Nat → ClassId) (a : Nat → Nat) (sz : Nat) (z : xTS) (j i : Nat) (x : Int64) (hj : j < 5) (hi : i < 32) : Met l y_T_putInPart w_T_putInPart (rmx 0 0 0 0) (tPc dC dI k a sz z [.ref (a 0), .int (nI j), .int (nI i), .long x]) (va_Qv (fun u : xTS => u = tPut z j i x) (tB dC dI k a) (va_A (tW k a z) sz)) 0 0 (va_A (tW k a z) sz) := by
  refine Met.ofW (cc := c_T_putInPart) (maxL := 5) (ret := none) (by decide) rfl ?_
  intro p e s m args below meth c s₁ B hml hv
  obtain ⟨rfl, hsz, hP, hK, hD0⟩ := hv
  have hx := B.exec
  have hb := B.bytes
  have hr := B.returns
  have hts := atoms_spec (ws := w_T_putInPart) B.pre
  have hB : ∀ w ∈ BIG, w.before _ s = true := fun w h => hts w (List.mem_cons_of_mem _ h)
  have hown : s.vm.findClass R_T = some m.cls := findClass_of_methodNamed B.named
  have hlocks := B.notSynchronized
  have hl := lv_entry ([.ref (a 0), .int (nI j), .int (nI i), .long x]) (n := 5) (Nat.le_of_ble_eq_true rfl)
  rw [lg_entry_eq]
  generalize (lg_sl ([.ref (a 0), .int (nI j), .int (nI i), .long x]) ++ List.replicate (5 - (lg_sl ([.ref (a 0), .int (nI j), .int (nI i), .long x])).length) Slot.unset).toArray = ls at hl ⊢
  have hl : lv_has ls 5 [(0, .ref (a 0)), (1, .int (nI j)), (2, .int (nI i)), (3, .long x)] := hl
  subst hsz
  have hD := hD0.self (sz := s.heap.size)
  generalize hAe : va_A (tW k a z) s.heap.size = A at hD ⊢
  have hA : ∀ q : Nat, s.heap.size ≤ q → A q := fun q h => by rw [← hAe]; exact Or.inr h
  have hS : va_S A s.heap s.heap [] := va_S.rf
  refine lv_aload_n hx hb d_T_putInPart_0 rfl (lv_at hl 0 rfl) ?_
  refine va_get (D := (dC, dI)) (ci := 0) (v := .ref (a 1)) (C := R_T) (T := F_T) (N := 6) hx hb hB in_T hown hK hP 0 rfl rfl 4 (by decide) (hB _ bw_45) (fun _ h9 => h9) rfl d_T_putInPart_1 ?_
  refine lv_iload_n hx hb d_T_putInPart_4 rfl (lv_at hl 1 rfl) ?_
  refine lv_dup2_11 hx hb d_T_putInPart_5 rfl rfl ?_
  refine va_iald hx hb hK hP 1 0 rfl rfl (pk_in j 5 hj) d_T_putInPart_6 ?_
  refine W.eq (g2 := F0 m 7 ls [.int (xW z j), .int (nI j), .ref (a 1)]) (by rw [cl_nI (by omega)]) ?_
  refine lv_iconst (v := 1) hx hb d_T_putInPart_7 (by decide) ?_
  refine lv_iload_n hx hb d_T_putInPart_8 rfl (lv_at hl 2 rfl) ?_
  refine lv_ishl hx hb d_T_putInPart_9 ?_
  refine lv_ior hx hb d_T_putInPart_10 ?_
  refine W.eq (g2 := F0 m 11 ls [.int (xW z j ||| sB i), .int (nI j), .ref (a 1)]) rfl ?_
  refine va_iast hx hb hK hP hD hS 1 0 rfl rfl (pk_in j 5 hj) d_T_putInPart_11 (fun H locs hP hD hS => ?_)
  rw [cl_nI (by omega)] at hP hD
  have hP : va_P (dC, dI) vwC (tW k a (xO z, xS z, xR z, xP z, upd (xW z) j (xW z j ||| sB i), xV z)) H := hP
  have hD : va_D A (tW k a (xO z, xS z, xR z, xP z, upd (xW z) j (xW z j ||| sB i), xV z)) := hD
  refine lv_aload_n hx hb d_T_putInPart_12 rfl (lv_at hl 0 rfl) ?_
  refine va_get (D := (dC, dI)) (ci := 0) (v := .ref (a 2)) (C := R_T) (T := F_T) (N := 6) hx hb hB in_T hown hK hP 0 rfl rfl 5 (by decide) (hB _ bw_46) (fun _ h9 => h9) rfl d_T_putInPart_13 ?_
  refine lv_iload_n hx hb d_T_putInPart_16 rfl (lv_at hl 1 rfl) ?_
  refine xa_aald (r := a (3 + j)) hx hb hK hP 2 2 rfl rfl (pk_in j 5 hj) (by rw [cl_nI (by omega)]) d_T_putInPart_17 ?_
  refine lv_iload_n hx hb d_T_putInPart_18 rfl (lv_at hl 2 rfl) ?_
  refine lv_lload_n hx hb d_T_putInPart_19 rfl (lv_at hl 3 rfl) ?_
  refine va_last hx hb hK hP hD hS (3 + j) 1 (tW_row hj) rfl (pk_in i 32 hi) d_T_putInPart_20 (fun H locs hP hD hS => ?_)
  rw [cl_nI (by omega), tW_set hj] at hP
  have hP : va_P (dC, dI) vwC (tW k a (tPut z j i x)) H := hP
  exact W.vret hx hb hr (fun t ht hW => ⟨⟨_, rfl, rfl, by show va_P (dC, dI) vwC _ t.heap; rw [ht]; exact hP⟩, hS.F ht⟩) hS.2.2 d_T_putInPart_21
set_option maxHeartbeats 4000000 in
set_option maxRecDepth 100000 in
theorem m_T_putInLastPart (l : Launch) (dC : Nat → ClassId) (dI : Nat → Nat → Nat) (k : Nat → ClassId) (a : Nat → Nat) (sz : Nat) (z : xTS) (i : Nat) (x : Int64) (hi : i < 32) (h1 : 1 ≤ xP z) (h5 : xP z ≤ 5) : Met l y_T_putInLastPart w_T_putInLastPart (rmx 1 0 0 32) (tPc dC dI k a sz z [.ref (a 0), .int (nI i), .long x]) (va_Qv (fun u : xTS => u = tPut z (xP z - 1) i x) (tB dC dI k a) (va_A (tW k a z) sz)) 0 0 (va_A (tW k a z) sz) := by
  refine Met.ofW (cc := c_T_putInLastPart) (maxL := 4) (ret := none) (by decide) rfl ?_
  intro p e s m args below meth c s₁ B hml hv
  obtain ⟨rfl, hsz, hP, hK, hD0⟩ := hv
  have hx := B.exec
  have hb := B.bytes
  have hr := B.returns
  have hts := atoms_spec (ws := w_T_putInLastPart) B.pre
  have hB : ∀ w ∈ BIG, w.before _ s = true := fun w h => hts w (List.mem_cons_of_mem _ h)
  have hown : s.vm.findClass R_T = some m.cls := findClass_of_methodNamed B.named
  have hlocks := B.notSynchronized
  have hl := lv_entry ([.ref (a 0), .int (nI i), .long x]) (n := 4) (Nat.le_of_ble_eq_true rfl)
  rw [lg_entry_eq]
  generalize (lg_sl ([.ref (a 0), .int (nI i), .long x]) ++ List.replicate (4 - (lg_sl ([.ref (a 0), .int (nI i), .long x])).length) Slot.unset).toArray = ls at hl ⊢
  have hl : lv_has ls 4 [(0, .ref (a 0)), (1, .int (nI i)), (2, .long x)] := hl
  subst hsz
  have hD := hD0.self (sz := s.heap.size)
  generalize hAe : va_A (tW k a z) s.heap.size = A at hD ⊢
  have hA : ∀ q : Nat, s.heap.size ≤ q → A q := fun q h => by rw [← hAe]; exact Or.inr h
  have hS : va_S A s.heap s.heap [] := va_S.rf
  refine lv_aload_n hx hb d_T_putInLastPart_0 rfl (lv_at hl 0 rfl) ?_
  refine lv_aload_n hx hb d_T_putInLastPart_1 rfl (lv_at hl 0 rfl) ?_
  refine va_get (D := (dC, dI)) (ci := 0) (v := .int (nI (xP z))) (C := R_T) (T := F_T) (N := 6) hx hb hB in_T hown hK hP 0 rfl rfl 3 (by decide) (hB _ bw_44) (fun _ h9 => h9) rfl d_T_putInLastPart_2 ?_
  refine lv_iconst (v := nI 1) hx hb d_T_putInLastPart_5 (by decide) ?_
  refine lv_isub hx hb d_T_putInLastPart_6 ?_
  refine W.eq (g2 := F0 m 7 ls [.int (nI (xP z - 1)), .ref (a 0)]) (by show F0 m 7 ls [.int (nI (xP z) - nI 1), .ref (a 0)] = _; rw [pk_sub h1]) ?_
  refine lv_iload_n hx hb d_T_putInLastPart_7 rfl (lv_at hl 1 rfl) ?_
  refine lv_lload_n hx hb d_T_putInLastPart_8 rfl (lv_at hl 2 rfl) ?_
  have hFc := va_free (wc := tW k a z) hD hS hA [0, 1, 2, 3, 4, 5, 6, 7] rfl
  refine va_callv (va_runV (As := [.int (nI (xP z - 1)), .int (nI i), .long x]) (rest := []) ⟨hx, hb, hml, hown, hB⟩ (m_T_putInPart l dC dI k a _ z (xP z - 1) i x (by omega) hi) (cwV 3 hB (BIG_V bw_232 bw_233 bw_6 bw_17 bw_234) rfl rfl rfl ⟨rfl, by decide, by decide, by decide +kernel⟩ ⟨Nat.le_of_ble_eq_true rfl, Nat.le_of_ble_eq_true rfl⟩) (tPc_pre _ hP hK hD) rfl rfl hl.1 rfl (lv_room (Nat.le_of_ble_eq_true rfl)) d_T_putInLastPart_9 ⟨Nat.zero_le _, Nat.zero_le _⟩) hS (fun q _ h => hFc q h) hFc (fun u t H1 locs ht hvm hw hB1 hz1 hk1 hS => ?_)
  subst hw
  have hP : va_P (dC, dI) vwC (tW k a (tPut z (xP z - 1) i x)) H1 := by rw [← ht]; exact hB1
  have hD : va_D A (tW k a (tPut z (xP z - 1) i x)) := tW_D hD
  clear hFc hB1 hk1 hz1 ht hvm
  generalize H1 = H at hP hS ⊢
  exact W.vret hx hb hr (fun t ht hW => ⟨⟨_, rfl, rfl, by show va_P (dC, dI) vwC _ t.heap; rw [ht]; exact hP⟩, hS.F ht⟩) hS.2.2 d_T_putInLastPart_12
set_option maxHeartbeats 4000000 in
set_option maxRecDepth 100000 in
theorem m_T_mergeLastPart (l : Launch) (dC : Nat → ClassId) (dI : Nat → Nat → Nat) (k : Nat → ClassId) (a : Nat → Nat) (sz : Nat) (z : xTS) (h1 : 2 ≤ xP z) (h5 : xP z ≤ 5) : Met l y_T_mergeLastPart w_T_mergeLastPart (rmx 1 0 0 40) (tPc dC dI k a sz z [.ref (a 0)]) (va_Qv (fun u : xTS => u = tDrop (tMrg z (xP z - 2) 32)) (tB dC dI k a) (va_A (tW k a z) sz)) 0 0 (va_A (tW k a z) sz) := by
  refine Met.ofW (cc := c_T_mergeLastPart) (maxL := 3) (ret := none) (by decide) rfl ?_
  intro p e s m args below meth c s₁ B hml hv
  obtain ⟨rfl, hsz, hP, hK, hD0⟩ := hv
  have hx := B.exec
  have hb := B.bytes
  have hr := B.returns
  have hts := atoms_spec (ws := w_T_mergeLastPart) B.pre
  have hB : ∀ w ∈ BIG, w.before _ s = true := fun w h => hts w (List.mem_cons_of_mem _ h)
  have hown : s.vm.findClass R_T = some m.cls := findClass_of_methodNamed B.named
  have hlocks := B.notSynchronized
  have hl := lv_entry ([.ref (a 0)]) (n := 3) (Nat.le_of_ble_eq_true rfl)
  rw [lg_entry_eq]
  generalize (lg_sl ([.ref (a 0)]) ++ List.replicate (3 - (lg_sl ([.ref (a 0)])).length) Slot.unset).toArray = ls at hl ⊢
  have hl : lv_has ls 3 [(0, .ref (a 0))] := hl
  subst hsz
  have hD := hD0.self (sz := s.heap.size)
  generalize hAe : va_A (tW k a z) s.heap.size = A at hD ⊢
  have hA : ∀ q : Nat, s.heap.size ≤ q → A q := fun q h => by rw [← hAe]; exact Or.inr h
  have hS : va_S A s.heap s.heap [] := va_S.rf
  obtain ⟨b, hb2⟩ : ∃ b, xP z = b + 2 := ⟨xP z - 2, by omega⟩
  have hb3 : xP z - 2 = b := by omega
  rw [hb3]
  refine lv_aload_n hx hb d_T_mergeLastPart_0 rfl (lv_at hl 0 rfl) ?_
  refine va_get (D := (dC, dI)) (ci := 0) (v := .int (nI (xP z))) (C := R_T) (T := F_T) (N := 6) hx hb hB in_T hown hK hP 0 rfl rfl 3 (by decide) (hB _ bw_44) (fun _ h9 => h9) rfl d_T_mergeLastPart_1 ?_
  refine lv_iconst (v := nI 1) hx hb d_T_mergeLastPart_4 (by decide) ?_
  refine lv_isub hx hb d_T_mergeLastPart_5 ?_
  refine W.eq (g2 := F0 m 6 ls [.int (nI (b + 1))]) (by show F0 m 6 ls [.int (nI (xP z) - nI 1)] = _; rw [pk_sub (by omega), hb2]; rfl) ?_
  refine lv_istore_n hx hb d_T_mergeLastPart_6 rfl hl (by decide) rfl (fun ls hl => ?_)
  have hl : lv_has ls 3 [(1, .int (nI (b + 1))), (0, .ref (a 0))] := hl
  refine lv_iconst (v := nI 0) hx hb d_T_mergeLastPart_7 (by decide) ?_
  refine lv_istore_n hx hb d_T_mergeLastPart_8 rfl hl (by decide) rfl (fun ls hl => ?_)
  have hl : lv_has ls 3 [(2, .int (nI 0)), (1, .int (nI (b + 1))), (0, .ref (a 0))] := hl
  have hP : va_P (dC, dI) vwC (tW k a (tMrg z b 0)) s.heap := hP
  have hD : va_D A (tW k a (tMrg z b 0)) := hD
  suffices key : ∀ n i (H : Heap) (locs : List Loc) (ls : Array Slot), i ≤ 32 → 32 - i = n → lv_has ls 3 [(2, .int (nI i)), (1, .int (nI (b + 1))), (0, .ref (a 0))] → va_P (dC, dI) vwC (tW k a (tMrg z b i)) H → va_D A (tW k a (tMrg z b i)) → va_S A s.heap H locs → W p l e _ s m _ below meth c H locs 0 0 (MQ below (va_Qv (fun u : xTS => u = tDrop (tMrg z b 32)) (tB dC dI k a) A) _ s 0 0 A) (F0 m 9 ls []) from key _ 0 _ _ ls (by omega) rfl hl hP hD hS
  intro n
  induction n with
  | zero =>
    intro i H locs ls hi hn hl hP hD hS
    have hie : i = 32 := by omega
    subst hie
    have hpp : xP (tMrg z b 32) = b + 2 := by rw [(mrg_fix (z := z) (p := b) 32).2.2.2]; exact hb2
    refine lv_iload_n hx hb d_T_mergeLastPart_9 rfl (lv_at hl 0 rfl) ?_
    refine lv_bipush (v := nI 32) hx hb d_T_mergeLastPart_10 (by decide) ?_
    refine lv_icmp_ge hx hb d_T_mergeLastPart_12 rfl (fun _ => ?_) (fun h9 => absurd (nI_le (Nat.le_refl 32) (by omega)) h9)
    refine lv_aload_n hx hb d_T_mergeLastPart_50 rfl (lv_at hl 2 rfl) ?_
    have hFc := va_free (wc := tW k a (tMrg z b 32)) hD hS hA [0, 1, 2, 3, 4, 5, 6, 7] rfl
    refine va_callv (va_runV (As := []) (rest := []) ⟨hx, hb, hml, hown, hB⟩ (m_T_dropLastPart l dC dI k a _ (tMrg z b 32) (by omega)) (cwV 0 hB (BIG_V bw_275 bw_261 bw_262 bw_17 bw_263) rfl rfl rfl ⟨rfl, by decide, by decide, by decide +kernel⟩ ⟨Nat.le_of_ble_eq_true rfl, Nat.le_of_ble_eq_true rfl⟩) (tPc_pre _ hP hK hD) rfl rfl hl.1 rfl (lv_room (Nat.le_of_ble_eq_true rfl)) d_T_mergeLastPart_51 ⟨Nat.zero_le _, Nat.zero_le _⟩) hS (fun q _ h => hFc q h) hFc (fun u t H1 locs ht hvm hw hB1 hz1 hk1 hS => ?_)
    subst hw
    have hP : va_P (dC, dI) vwC (tW k a (tDrop (tMrg z b 32))) H1 := by rw [← ht]; exact hB1
    have hD : va_D A (tW k a (tDrop (tMrg z b 32))) := tW_D hD
    clear hFc hB1 hk1 hz1 ht hvm
    generalize H1 = H at hP hS ⊢
    exact W.vret hx hb hr (fun t ht hW => ⟨⟨_, rfl, rfl, by show va_P (dC, dI) vwC _ t.heap; rw [ht]; exact hP⟩, hS.F ht⟩) hS.2.2 d_T_mergeLastPart_54
  | succ n ih =>
    intro i H locs ls hi hn hl hP hD hS
    have hlt : i < 32 := by omega
    obtain ⟨mw, mv⟩ := mrg_at (z := z) (p := b) i (by omega)
    refine lv_iload_n hx hb d_T_mergeLastPart_9 rfl (lv_at hl 0 rfl) ?_
    refine lv_bipush (v := nI 32) hx hb d_T_mergeLastPart_10 (by decide) ?_
    refine lv_icmp_ge hx hb d_T_mergeLastPart_12 rfl (fun h9 => absurd h9 (nI_ge hlt (by omega))) (fun _ => ?_)
    refine lv_aload_n hx hb d_T_mergeLastPart_15 rfl (lv_at hl 2 rfl) ?_
    refine va_get (D := (dC, dI)) (ci := 0) (v := .ref (a 1)) (C := R_T) (T := F_T) (N := 6) hx hb hB in_T hown hK hP 0 rfl rfl 4 (by decide) (hB _ bw_45) (fun _ h9 => h9) rfl d_T_mergeLastPart_16 ?_
    refine lv_iload_n hx hb d_T_mergeLastPart_19 rfl (lv_at hl 1 rfl) ?_
    refine va_iald hx hb hK hP 1 0 rfl rfl (pk_in (b + 1) 5 (by omega)) d_T_mergeLastPart_20 ?_
    refine W.eq (g2 := F0 m 21 ls [.int (xW (tMrg z b i) (b + 1))]) (by rw [cl_nI (by omega)]) ?_
    refine lv_iload_n hx hb d_T_mergeLastPart_21 rfl (lv_at hl 0 rfl) ?_
    refine vp_callSi (va_Run.run (va_runS (As := [.int (xW (tMrg z b i) (b + 1)), .int (nI i)]) (rest := []) ⟨hx, hb, hml, hown, hB⟩ (m_T_holds l (xW (tMrg z b i) (b + 1)) i hlt) (va_cwS 2 hB (BIG_SS bw_185 bw_186 bw_17 bw_187) rfl rfl rfl ⟨by decide, by decide, by decide +kernel⟩ ⟨Nat.le_of_ble_eq_true rfl, Nat.le_of_ble_eq_true rfl⟩) preEq rfl rfl hl.1 rfl (lv_room (Nat.le_of_ble_eq_true rfl)) d_T_mergeLastPart_22 ⟨Nat.zero_le _, Nat.zero_le _⟩)) (fun r7 hr7 => ?_)
    subst hr7
    refine lv_if_eq hx hb d_T_mergeLastPart_25 rfl (fun h9 => ?_) (fun h9 => ?_)
    · have h8 : bt (xW (tMrg z b i) (b + 1)) i = false := bI_ne.mp h9
      have he : tMrg z b (i + 1) = tMrg z b i := by show (if _ then _ else _) = _; rw [h8, if_neg (by decide)]
      refine lv_iinc (k := 0) (v := nI (i + 1)) hx hb d_T_mergeLastPart_44 hl rfl (nI_1 i) (by decide) rfl (fun ls hl => ?_)
      have hl : lv_has ls 3 [(2, .int (nI (i + 1))), (1, .int (nI (b + 1))), (0, .ref (a 0))] := hl
      refine lv_goto hx hb d_T_mergeLastPart_47 rfl ?_
      exact ih (i + 1) H locs ls (by omega) (by omega) hl (by rw [he]; exact hP) (by rw [he]; exact hD) hS
    · have h8 : bt (xW (tMrg z b i) (b + 1)) i = true := by cases hc : bt (xW (tMrg z b i) (b + 1)) i; exact absurd (bI_ne.mpr hc) h9; rfl
      have he : tMrg z b (i + 1) = tPut (tMrg z b i) b i (xV (tMrg z b i) (b + 1) i) := by show (if _ then _ else _) = _; rw [h8, if_pos rfl]
      refine lv_aload_n hx hb d_T_mergeLastPart_28 rfl (lv_at hl 2 rfl) ?_
      refine lv_iload_n hx hb d_T_mergeLastPart_29 rfl (lv_at hl 1 rfl) ?_
      refine lv_iconst (v := nI 1) hx hb d_T_mergeLastPart_30 (by decide) ?_
      refine lv_isub hx hb d_T_mergeLastPart_31 ?_
      refine W.eq (g2 := F0 m 32 ls [.int (nI b), .ref (a 0)]) (by show F0 m 32 ls [.int (nI (b + 1) - nI 1), .ref (a 0)] = _; rw [pk_sub (by omega)]; rfl) ?_
      refine lv_iload_n hx hb d_T_mergeLastPart_32 rfl (lv_at hl 0 rfl) ?_
      refine lv_aload_n hx hb d_T_mergeLastPart_33 rfl (lv_at hl 2 rfl) ?_
      refine va_get (D := (dC, dI)) (ci := 0) (v := .ref (a 2)) (C := R_T) (T := F_T) (N := 6) hx hb hB in_T hown hK hP 0 rfl rfl 5 (by decide) (hB _ bw_46) (fun _ h9 => h9) rfl d_T_mergeLastPart_34 ?_
      refine lv_iload_n hx hb d_T_mergeLastPart_37 rfl (lv_at hl 1 rfl) ?_
      refine xa_aald (r := a (3 + (b + 1))) hx hb hK hP 2 2 rfl rfl (pk_in (b + 1) 5 (by omega)) (by rw [cl_nI (by omega)]) d_T_mergeLastPart_38 ?_
      refine lv_iload_n hx hb d_T_mergeLastPart_39 rfl (lv_at hl 0 rfl) ?_
      refine va_lald hx hb hK hP (3 + (b + 1)) 1 (tW_row (by omega)) rfl (pk_in i 32 hlt) d_T_mergeLastPart_40 ?_
      refine W.eq (g2 := F0 m 41 ls [.long (xV (tMrg z b i) (b + 1) i), .int (nI i), .int (nI b), .ref (a 0)]) (by rw [cl_nI (by omega)]) ?_
      have hFc := va_free (wc := tW k a (tMrg z b i)) hD hS hA [0, 1, 2, 3, 4, 5, 6, 7] rfl
      refine va_callv (va_runV (As := [.int (nI b), .int (nI i), .long (xV (tMrg z b i) (b + 1) i)]) (rest := []) ⟨hx, hb, hml, hown, hB⟩ (m_T_putInPart l dC dI k a _ (tMrg z b i) b i (xV (tMrg z b i) (b + 1) i) (by omega) hlt) (cwV 3 hB (BIG_V bw_232 bw_233 bw_6 bw_17 bw_234) rfl rfl rfl ⟨rfl, by decide, by decide, by decide +kernel⟩ ⟨Nat.le_of_ble_eq_true rfl, Nat.le_of_ble_eq_true rfl⟩) (tPc_pre _ hP hK hD) rfl rfl hl.1 rfl (lv_room (Nat.le_of_ble_eq_true rfl)) d_T_mergeLastPart_41 ⟨Nat.zero_le _, Nat.zero_le _⟩) hS (fun q _ h => hFc q h) hFc (fun u t H1 locs ht hvm hw hB1 hz1 hk1 hS => ?_)
      subst hw
      have hP : va_P (dC, dI) vwC (tW k a (tPut (tMrg z b i) b i (xV (tMrg z b i) (b + 1) i))) H1 := by rw [← ht]; exact hB1
      have hD : va_D A (tW k a (tPut (tMrg z b i) b i (xV (tMrg z b i) (b + 1) i))) := tW_D hD
      clear hFc hB1 hk1 hz1 ht hvm
      generalize H1 = H at hP hS ⊢
      refine lv_iinc (k := 0) (v := nI (i + 1)) hx hb d_T_mergeLastPart_44 hl rfl (nI_1 i) (by decide) rfl (fun ls hl => ?_)
      have hl : lv_has ls 3 [(2, .int (nI (i + 1))), (1, .int (nI (b + 1))), (0, .ref (a 0))] := hl
      refine lv_goto hx hb d_T_mergeLastPart_47 rfl ?_
      exact ih (i + 1) H locs ls (by omega) (by omega) hl (by rw [he]; exact hP) (by rw [he]; exact hD) hS
end
section
/-! The reference's cells in the heap, and what the contracts of its methods begin and end with. -/
def mW (k : Nat → ClassId) (a : Nat → Nat) (r : xRS) : va_W := [(a 0, .inr (2, [.int (zE r), .ref (a 1), .ref (a 2), .ref (a 3), .ref (a 4), .ref (a 5), .ref (a 6), .ref (a 7), .ref (a 8), .int (zD r), .int (zL r)])),
  (a 1, .inl (k 1, 32, .inr (.inl (zC r)))), (a 2, .inl (k 1, 1280, .inr (.inl (zW r)))), (a 3, .inl (k 0, 32, .inl (zG r))), (a 4, .inl (k 0, 8, .inl (fun t => nI (zP r t)))), (a 5, .inl (k 0, 256, .inl (zS r))),
  (a 6, .inl (k 4, 1280, .inl (fun j => bI (zH r j)))), (a 7, .inl (k 4, 256, .inl (fun j => bI (zR r j)))), (a 8, .inl (k 4, 8, .inl (fun j => bI (zO r j))))]
theorem mW_D {A : Nat → Prop} {k : Nat → ClassId} {a : Nat → Nat} {r r2 : xRS} (h : va_D A (mW k a r)) : va_D A (mW k a r2) := va_D_adr (w1 := mW k a r) (w2 := mW k a r2) rfl h
theorem bI_upd (f : Nat → Bool) (i : Nat) (b : Bool) : upd (fun j => bI (f j)) i (vp_nar .boolean (bI b)) = fun j => bI (va_up f i b j) := by
  funext j
  rw [bI_vnar]
  by_cases e : j = i
  · subst e; rw [pk_us, va_up_self]
  · rw [pk_un e, va_up_ne _ _ e]
theorem nI_upd (f : Nat → Nat) (i n : Nat) : upd (fun j => nI (f j)) i (nI n) = fun j => nI (va_up f i n j) := by
  funext j
  by_cases e : j = i
  · subst e; rw [pk_us, va_up_self]
  · rw [pk_un e, va_up_ne _ _ e]
def mRc (dC : Nat → ClassId) (dI : Nat → Nat → Nat) (k : Nat → ClassId) (a : Nat → Nat) (r : xRS) (av : List Value) : Array Value → State → Prop := va_Pc av (fun U => va_P (dC, dI) vwC (mW k a r) U.heap ∧ va_K (dC, dI) vwC (kT k) U)
def mPc (dC : Nat → ClassId) (dI : Nat → Nat → Nat) (k : Nat → ClassId) (a : Nat → Nat) (sz : Nat) (r : xRS) (av : List Value) : Array Value → State → Prop := va_Pc av (fun U => U.heap.size = sz ∧ va_P (dC, dI) vwC (mW k a r) U.heap ∧ va_K (dC, dI) vwC (kT k) U ∧ va_D (fun _ => True) (mW k a r))
abbrev mB (dC : Nat → ClassId) (dI : Nat → Nat → Nat) (k : Nat → ClassId) (a : Nat → Nat) (r : xRS) (t : State) : Prop := va_P (dC, dI) vwC (mW k a r) t.heap
theorem mRc_pre {dC : Nat → ClassId} {dI : Nat → Nat → Nat} {k : Nat → ClassId} {a : Nat → Nat} {r : xRS} {s : State} {H : Heap} (As : List Value) (hP : va_P (dC, dI) vwC (mW k a r) H) (hK : va_K (dC, dI) vwC (kT k) s) : PreV s H R_M (a 0) (mRc dC dI k a r (.ref (a 0) :: As)) As :=
  ⟨fun av U g mk q => by obtain ⟨q0, qP, qK⟩ := q; exact ⟨q0, qP, va_K.moved (u := U) (U := U.calling g mk av) (Vm.Alike.refl U.vm) qK⟩, va_recv (q0 := 0) (ci := 2) (q := (R_M, F_M, 11)) hK hP rfl rfl, fun U hU hW => ⟨rfl, by rw [hU]; exact hP, va_K.moved hW.alike hK⟩⟩
theorem mPc_pre {dC : Nat → ClassId} {dI : Nat → Nat → Nat} {k : Nat → ClassId} {a : Nat → Nat} {r : xRS} {s : State} {H : Heap} {A : Nat → Prop} (As : List Value) (hP : va_P (dC, dI) vwC (mW k a r) H) (hK : va_K (dC, dI) vwC (kT k) s) (hD : va_D A (mW k a r)) : PreV s H R_M (a 0) (mPc dC dI k a H.size r (.ref (a 0) :: As)) As :=
  ⟨fun av U g mk q => by obtain ⟨q0, q1, qP, qK, qD⟩ := q; exact ⟨q0, q1, qP, va_K.moved (u := U) (U := U.calling g mk av) (Vm.Alike.refl U.vm) qK, qD⟩, va_recv (q0 := 0) (ci := 2) (q := (R_M, F_M, 11)) hK hP rfl rfl, fun U hU hW => ⟨rfl, by rw [hU], by rw [hU]; exact hP, va_K.moved hW.alike hK, hD.weaken (fun _ _ _ _ => trivial)⟩⟩
/-- an open transaction has one to five parts -/
def mOk (r : xRS) : Prop := ∀ t, t < 8 → zO r t = true → 1 ≤ zP r t ∧ zP r t ≤ 5
theorem in_ix {x : Int32} {n : Nat} {N : Int64} (hN : N.toInt = (n : Int)) : decide (0 ≤ x.toInt64 ∧ x.toInt64 ≤ N) = (ix (n + 1) x).isSome := by
  have h1 : (0 : Int64) ≤ x.toInt64 ↔ 0 ≤ x.toInt := by rw [Int64.le_iff_toInt_le, Int32.toInt_toInt64]; exact Iff.rfl
  have h2 : x.toInt64 ≤ N ↔ x.toInt < ((n + 1 : Nat) : Int) := by rw [Int64.le_iff_toInt_le, Int32.toInt_toInt64, hN]; omega
  unfold ix
  by_cases h : 0 ≤ x.toInt ∧ x.toInt < ((n + 1 : Nat) : Int)
  · rw [if_pos h, decide_eq_true ⟨h1.mpr h.1, h2.mpr h.2⟩]; rfl
  · rw [if_neg h, decide_eq_false (fun q => h ⟨h1.mp q.1, h2.mp q.2⟩)]; rfl
theorem xi_dec (a : Nat) : nI (a + 1) + Int32.ofInt (-1) = nI a := pk_m1 a
end
section
/-! The reference: its small methods. -/
theorem zSt_up {r : xRS} {t : Nat} : ∀ {n m : Nat}, zSt r t n = true → n ≤ m → zSt r t m = true
  | n, 0, h, hm => by
    have : n = 0 := by omega
    subst this
    exact h
  | n, m + 1, h, hm => by
    by_cases e : n = m + 1
    · subst e; exact h
    · show (zSt r t m || _) = true
      rw [zSt_up h (by omega)]
      rfl
set_option maxHeartbeats 4000000 in
set_option maxRecDepth 100000 in
theorem m_M_thrown (l : Launch) (dC : Nat → ClassId) (dI : Nat → Nat → Nat) (k : Nat → ClassId) (a : Nat → Nat) (r : xRS) : Met l y_M_thrown w_M_thrown (rmx 0 0 0 0) (mRc dC dI k a r [.ref (a 0)]) (vp_Si (fun o => o = zE r)) 0 0 (fun _ => False) := by
  refine Met.ofW (cc := c_M_thrown) (maxL := 1) (ret := (some .int)) (by decide) rfl ?_
  intro p e s m args below meth c s₁ B hml hv
  obtain ⟨rfl, hP, hK⟩ := hv
  have hx := B.exec
  have hb := B.bytes
  have hr := B.returns
  have hts := atoms_spec (ws := w_M_thrown) B.pre
  have hB : ∀ w ∈ BIG, w.before _ s = true := fun w h => hts w (List.mem_cons_of_mem _ h)
  have hown : s.vm.findClass R_M = some m.cls := findClass_of_methodNamed B.named
  have hlocks := B.notSynchronized
  have hl := lv_entry ([.ref (a 0)]) (n := 1) (Nat.le_of_ble_eq_true rfl)
  rw [lg_entry_eq]
  generalize (lg_sl ([.ref (a 0)]) ++ List.replicate (1 - (lg_sl ([.ref (a 0)])).length) Slot.unset).toArray = ls at hl ⊢
  have hl : lv_has ls 1 [(0, .ref (a 0))] := hl
  refine lv_aload_n hx hb d_M_thrown_0 rfl (lv_at hl 0 rfl) ?_
  refine va_get (D := (dC, dI)) (ci := 2) (v := .int (zE r)) (C := R_M) (T := F_M) (N := 11) hx hb hB in_M hown hK hP 0 rfl rfl 0 (by decide) (hB _ bw_355) (fun _ h9 => h9) rfl d_M_thrown_1 ?_
  exact W.iret (v := zE r) hx hb hr (fun t ht hW => ⟨_, rfl, rfl, ht⟩) (fun q h => nomatch h) d_M_thrown_4
set_option maxHeartbeats 4000000 in
set_option maxRecDepth 100000 in
theorem m_M_in (l : Launch) (v8 b8 c8 : Int64) : Met l y_M_in w_M_in (rmx 0 0 0 0) (fun v _ => v = ([.long v8, .long b8, .long c8] : List Value).toArray) (vp_Si (fun o => o = bI (decide (b8 ≤ v8 ∧ v8 ≤ c8)))) 0 0 (fun _ => False) := by
  refine Met.ofW (cc := c_M_in) (maxL := 6) (ret := (some .boolean)) (by decide) rfl ?_
  intro p e s m args below meth c s₁ B hml hv
  obtain rfl := hv
  have hx := B.exec
  have hb := B.bytes
  have hr := B.returns
  have hts := atoms_spec (ws := w_M_in) B.pre
  have hB : ∀ w ∈ BIG, w.before _ s = true := fun w h => hts w (List.mem_cons_of_mem _ h)
  have hown : s.vm.findClass R_M = some m.cls := findClass_of_methodNamed B.named
  have hlocks := B.notSynchronized
  have hl := lv_entry ([.long v8, .long b8, .long c8]) (n := 6) (Nat.le_of_ble_eq_true rfl)
  rw [lg_entry_eq]
  generalize (lg_sl ([.long v8, .long b8, .long c8]) ++ List.replicate (6 - (lg_sl ([.long v8, .long b8, .long c8])).length) Slot.unset).toArray = ls at hl ⊢
  have hl : lv_has ls 6 [(0, .long v8), (2, .long b8), (4, .long c8)] := hl
  refine lv_lload_n hx hb d_M_in_0 rfl (lv_at hl 0 rfl) ?_
  refine lv_lload_n hx hb d_M_in_1 rfl (lv_at hl 1 rfl) ?_
  refine W.lcmp hx hb d_M_in_2 ?_
  refine lv_if_lt hx hb d_M_in_3 rfl (fun h9 => ?_) (fun h9 => ?_)
  · have h8 : v8 < b8 := (lg_cmp_lt v8 b8).mp h9
    have h5 : decide (b8 ≤ v8 ∧ v8 ≤ c8) = false := decide_eq_false (fun q => by have h1 := q.1; rw [Int64.le_iff_toInt_le] at h1; rw [Int64.lt_iff_toInt_lt] at h8; omega)
    refine lv_iconst (v := bI (decide (b8 ≤ v8 ∧ v8 ≤ c8))) hx hb d_M_in_17 (by rw [h5]; decide) ?_
    exact W.zret (v := bI (decide (b8 ≤ v8 ∧ v8 ≤ c8))) hx hb hr (bI_nar _) (fun t ht hW => ⟨_, rfl, rfl, ht⟩) (fun q h => nomatch h) d_M_in_18
  · have h8 : b8 ≤ v8 := by
      have h1 : ¬ v8 < b8 := fun q => h9 ((lg_cmp_lt v8 b8).mpr q)
      rw [Int64.lt_iff_toInt_lt] at h1; rw [Int64.le_iff_toInt_le]; omega
    refine lv_lload_n hx hb d_M_in_6 rfl (lv_at hl 0 rfl) ?_
    refine lv_lload hx hb d_M_in_7 (lv_at hl 2 rfl) ?_
    refine W.lcmp hx hb d_M_in_9 ?_
    refine lv_if_gt hx hb d_M_in_10 rfl (fun h7 => ?_) (fun h7 => ?_)
    · have h6 : c8 < v8 := (lg_cmp_gt v8 c8).mp h7
      have h5 : decide (b8 ≤ v8 ∧ v8 ≤ c8) = false := decide_eq_false (fun q => by have h1 := q.2; rw [Int64.le_iff_toInt_le] at h1; rw [Int64.lt_iff_toInt_lt] at h6; omega)
      refine lv_iconst (v := bI (decide (b8 ≤ v8 ∧ v8 ≤ c8))) hx hb d_M_in_17 (by rw [h5]; decide) ?_
      exact W.zret (v := bI (decide (b8 ≤ v8 ∧ v8 ≤ c8))) hx hb hr (bI_nar _) (fun t ht hW => ⟨_, rfl, rfl, ht⟩) (fun q h => nomatch h) d_M_in_18
    · have h6 : v8 ≤ c8 := by
        have h1 : ¬ c8 < v8 := fun q => h7 ((lg_cmp_gt v8 c8).mpr q)
        rw [Int64.lt_iff_toInt_lt] at h1; rw [Int64.le_iff_toInt_le]; omega
      have h5 : decide (b8 ≤ v8 ∧ v8 ≤ c8) = true := decide_eq_true ⟨h8, h6⟩
      refine lv_iconst (v := bI (decide (b8 ≤ v8 ∧ v8 ≤ c8))) hx hb d_M_in_13 (by rw [h5]; decide) ?_
      refine lv_goto hx hb d_M_in_14 rfl ?_
      exact W.zret (v := bI (decide (b8 ≤ v8 ∧ v8 ≤ c8))) hx hb hr (bI_nar _) (fun t ht hW => ⟨_, rfl, rfl, ht⟩) (fun q h => nomatch h) d_M_in_18
set_option maxHeartbeats 4000000 in
set_option maxRecDepth 100000 in
theorem m_M_isOne (l : Launch) (x : Int32) : Met l y_M_isOne w_M_isOne (rmx 1 0 0 40) (fun v _ => v = ([.int x] : List Value).toArray) (vp_Si (fun o => o = bI (ix 8 x).isSome)) 0 0 (fun _ => False) := by
  refine Met.ofW (cc := c_M_isOne) (maxL := 1) (ret := (some .boolean)) (by decide) rfl ?_
  intro p e s m args below meth c s₁ B hml hv
  obtain rfl := hv
  have hx := B.exec
  have hb := B.bytes
  have hr := B.returns
  have hts := atoms_spec (ws := w_M_isOne) B.pre
  have hB : ∀ w ∈ BIG, w.before _ s = true := fun w h => hts w (List.mem_cons_of_mem _ h)
  have hown : s.vm.findClass R_M = some m.cls := findClass_of_methodNamed B.named
  have hlocks := B.notSynchronized
  have hl := lv_entry ([.int x]) (n := 1) (Nat.le_of_ble_eq_true rfl)
  rw [lg_entry_eq]
  generalize (lg_sl ([.int x]) ++ List.replicate (1 - (lg_sl ([.int x])).length) Slot.unset).toArray = ls at hl ⊢
  have hl : lv_has ls 1 [(0, .int x)] := hl
  refine lv_iload_n hx hb d_M_isOne_0 rfl (lv_at hl 0 rfl) ?_
  refine lv_i2l hx hb d_M_isOne_1 rfl ?_
  refine lv_lconst (v := 0) hx hb d_M_isOne_2 (by decide) ?_
  refine lv_ldc2 hx hb hown (hB _ bw_390) d_M_isOne_3 ?_
  refine vp_callSi (va_Run.run (va_runS (As := [.long x.toInt64, .long 0, .long 7]) (rest := []) ⟨hx, hb, hml, hown, hB⟩ (m_M_in l x.toInt64 0 7) (va_cwS 3 hB (BIG_SS bw_391 bw_392 bw_18 bw_393) rfl rfl rfl ⟨by decide, by decide, by decide +kernel⟩ ⟨Nat.le_of_ble_eq_true rfl, Nat.le_of_ble_eq_true rfl⟩) preEq rfl rfl hl.1 rfl (lv_room (Nat.le_of_ble_eq_true rfl)) d_M_isOne_6 ⟨Nat.zero_le _, Nat.zero_le _⟩)) (fun r7 hr7 => ?_)
  exact W.zret (v := r7) hx hb hr (by rw [hr7]; exact bI_nar _) (fun t ht hW => ⟨_, rfl, by rw [hr7, in_ix (n := 7) (by decide)], ht⟩) (fun q h => nomatch h) d_M_isOne_9
set_option maxHeartbeats 4000000 in
set_option maxRecDepth 100000 in
theorem m_M_isCell (l : Launch) (x : Int32) : Met l y_M_isCell w_M_isCell (rmx 1 0 0 40) (fun v _ => v = ([.int x] : List Value).toArray) (vp_Si (fun o => o = bI (ix 32 x).isSome)) 0 0 (fun _ => False) := by
  refine Met.ofW (cc := c_M_isCell) (maxL := 1) (ret := (some .boolean)) (by decide) rfl ?_
  intro p e s m args below meth c s₁ B hml hv
  obtain rfl := hv
  have hx := B.exec
  have hb := B.bytes
  have hr := B.returns
  have hts := atoms_spec (ws := w_M_isCell) B.pre
  have hB : ∀ w ∈ BIG, w.before _ s = true := fun w h => hts w (List.mem_cons_of_mem _ h)
  have hown : s.vm.findClass R_M = some m.cls := findClass_of_methodNamed B.named
  have hlocks := B.notSynchronized
  have hl := lv_entry ([.int x]) (n := 1) (Nat.le_of_ble_eq_true rfl)
  rw [lg_entry_eq]
  generalize (lg_sl ([.int x]) ++ List.replicate (1 - (lg_sl ([.int x])).length) Slot.unset).toArray = ls at hl ⊢
  have hl : lv_has ls 1 [(0, .int x)] := hl
  refine lv_iload_n hx hb d_M_isCell_0 rfl (lv_at hl 0 rfl) ?_
  refine lv_i2l hx hb d_M_isCell_1 rfl ?_
  refine lv_lconst (v := 0) hx hb d_M_isCell_2 (by decide) ?_
  refine lv_ldc2 hx hb hown (hB _ bw_407) d_M_isCell_3 ?_
  refine vp_callSi (va_Run.run (va_runS (As := [.long x.toInt64, .long 0, .long 31]) (rest := []) ⟨hx, hb, hml, hown, hB⟩ (m_M_in l x.toInt64 0 31) (va_cwS 3 hB (BIG_SS bw_391 bw_392 bw_18 bw_393) rfl rfl rfl ⟨by decide, by decide, by decide +kernel⟩ ⟨Nat.le_of_ble_eq_true rfl, Nat.le_of_ble_eq_true rfl⟩) preEq rfl rfl hl.1 rfl (lv_room (Nat.le_of_ble_eq_true rfl)) d_M_isCell_6 ⟨Nat.zero_le _, Nat.zero_le _⟩)) (fun r7 hr7 => ?_)
  exact W.zret (v := r7) hx hb hr (by rw [hr7]; exact bI_nar _) (fun t ht hW => ⟨_, rfl, by rw [hr7, in_ix (n := 31) (by decide)], ht⟩) (fun q h => nomatch h) d_M_isCell_9
set_option maxHeartbeats 4000000 in
set_option maxRecDepth 100000 in
theorem m_M_fails_t (l : Launch) (dC : Nat → ClassId) (dI : Nat → Nat → Nat) (k : Nat → ClassId) (a : Nat → Nat) (sz : Nat) (r : xRS) (c8 : Int32) (hE : zE r = 0) (hc : c8 ≠ 0) : Met l y_M_fails w_M_fails (rmx 0 0 0 0) (mPc dC dI k a sz r [.ref (a 0), .int (bI true), .int c8]) (va_Qi (fun o u => o = bI true ∧ u = zErr r c8) (mB dC dI k a) (va_A (mW k a r) sz)) 0 0 (va_A (mW k a r) sz) := by
  refine Met.ofW (cc := c_M_fails) (maxL := 3) (ret := (some .boolean)) (by decide) rfl ?_
  intro p e s m args below meth c s₁ B hml hv
  obtain ⟨rfl, hsz, hP, hK, hD0⟩ := hv
  have hx := B.exec
  have hb := B.bytes
  have hr := B.returns
  have hts := atoms_spec (ws := w_M_fails) B.pre
  have hB : ∀ w ∈ BIG, w.before _ s = true := fun w h => hts w (List.mem_cons_of_mem _ h)
  have hown : s.vm.findClass R_M = some m.cls := findClass_of_methodNamed B.named
  have hlocks := B.notSynchronized
  have hl := lv_entry ([.ref (a 0), .int (bI true), .int c8]) (n := 3) (Nat.le_of_ble_eq_true rfl)
  rw [lg_entry_eq]
  generalize (lg_sl ([.ref (a 0), .int (bI true), .int c8]) ++ List.replicate (3 - (lg_sl ([.ref (a 0), .int (bI true), .int c8])).length) Slot.unset).toArray = ls at hl ⊢
  have hl : lv_has ls 3 [(0, .ref (a 0)), (1, .int (bI true)), (2, .int c8)] := hl
  subst hsz
  have hD := hD0.self (sz := s.heap.size)
  generalize hAe : va_A (mW k a r) s.heap.size = A at hD ⊢
  have hA : ∀ q : Nat, s.heap.size ≤ q → A q := fun q h => by rw [← hAe]; exact Or.inr h
  have hS : va_S A s.heap s.heap [] := va_S.rf
  have hDk := hD
  refine lv_iload_n hx hb d_M_fails_0 rfl (lv_at hl 1 rfl) ?_
  refine lv_if_eq hx hb d_M_fails_1 rfl (fun h9 => absurd h9 (by decide)) (fun _ => ?_)
  refine lv_aload_n hx hb d_M_fails_4 rfl (lv_at hl 0 rfl) ?_
  refine va_get (D := (dC, dI)) (ci := 2) (v := .int (zE r)) (C := R_M) (T := F_M) (N := 11) hx hb hB in_M hown hK hP 0 rfl rfl 0 (by decide) (hB _ bw_355) (fun _ h9 => h9) rfl d_M_fails_5 ?_
  refine lv_if_ne hx hb d_M_fails_8 rfl (fun h9 => absurd h9 (fun q => q hE)) (fun _ => ?_)
  refine lv_aload_n hx hb d_M_fails_11 rfl (lv_at hl 0 rfl) ?_
  refine lv_iload_n hx hb d_M_fails_12 rfl (lv_at hl 2 rfl) ?_
  refine va_put (D := (dC, dI)) (ci := 2) (v := .int c8) (ty := .int) (C := R_M) (T := F_M) (N := 11) hx hb hB in_M tf_M ty_M nm_M hown hK hP hD hS 0 rfl rfl 0 (by decide) (hB _ bw_355) (fun _ h9 => h9) rfl (by decide +kernel) rfl rfl (Nat.le_of_ble_eq_true rfl) d_M_fails_13 (fun H locs hP hD hS => ?_)
  have hP : va_P (dC, dI) vwC (mW k a (c8, zC r, zW r, zG r, zP r, zS r, zH r, zR r, zO r, zD r, zL r)) H := hP
  have hD : va_D A (mW k a (c8, zC r, zW r, zG r, zP r, zS r, zH r, zR r, zO r, zD r, zL r)) := hD
  refine lv_aload_n hx hb d_M_fails_16 rfl (lv_at hl 0 rfl) ?_
  refine va_get (D := (dC, dI)) (ci := 2) (v := .int (c8)) (C := R_M) (T := F_M) (N := 11) hx hb hB in_M hown hK hP 0 rfl rfl 0 (by decide) (hB _ bw_355) (fun _ h9 => h9) rfl d_M_fails_17 ?_
  refine lv_if_eq hx hb d_M_fails_20 rfl (fun h9 => absurd h9 (hc)) (fun _ => ?_)
  refine lv_iconst (v := bI true) hx hb d_M_fails_23 (by decide) ?_
  refine lv_goto hx hb d_M_fails_24 rfl ?_
  exact W.zret (v := bI true) hx hb hr (bI_nar _) (fun t ht hW => ⟨⟨bI true, zErr r c8, rfl, ⟨rfl, rfl⟩, by show va_P (dC, dI) vwC _ t.heap; rw [ht]; exact hP⟩, hS.F ht⟩) hS.2.2 d_M_fails_28
set_option maxHeartbeats 4000000 in
set_option maxRecDepth 100000 in
theorem m_M_fails_f (l : Launch) (dC : Nat → ClassId) (dI : Nat → Nat → Nat) (k : Nat → ClassId) (a : Nat → Nat) (sz : Nat) (r : xRS) (c8 : Int32) (hE : zE r = 0) : Met l y_M_fails w_M_fails (rmx 0 0 0 0) (mPc dC dI k a sz r [.ref (a 0), .int (bI false), .int c8]) (va_Qi (fun o u => o = bI false ∧ u = r) (mB dC dI k a) (va_A (mW k a r) sz)) 0 0 (va_A (mW k a r) sz) := by
  refine Met.ofW (cc := c_M_fails) (maxL := 3) (ret := (some .boolean)) (by decide) rfl ?_
  intro p e s m args below meth c s₁ B hml hv
  obtain ⟨rfl, hsz, hP, hK, hD0⟩ := hv
  have hx := B.exec
  have hb := B.bytes
  have hr := B.returns
  have hts := atoms_spec (ws := w_M_fails) B.pre
  have hB : ∀ w ∈ BIG, w.before _ s = true := fun w h => hts w (List.mem_cons_of_mem _ h)
  have hown : s.vm.findClass R_M = some m.cls := findClass_of_methodNamed B.named
  have hlocks := B.notSynchronized
  have hl := lv_entry ([.ref (a 0), .int (bI false), .int c8]) (n := 3) (Nat.le_of_ble_eq_true rfl)
  rw [lg_entry_eq]
  generalize (lg_sl ([.ref (a 0), .int (bI false), .int c8]) ++ List.replicate (3 - (lg_sl ([.ref (a 0), .int (bI false), .int c8])).length) Slot.unset).toArray = ls at hl ⊢
  have hl : lv_has ls 3 [(0, .ref (a 0)), (1, .int (bI false)), (2, .int c8)] := hl
  subst hsz
  have hD := hD0.self (sz := s.heap.size)
  generalize hAe : va_A (mW k a r) s.heap.size = A at hD ⊢
  have hA : ∀ q : Nat, s.heap.size ≤ q → A q := fun q h => by rw [← hAe]; exact Or.inr h
  have hS : va_S A s.heap s.heap [] := va_S.rf
  have hDk := hD
  refine lv_iload_n hx hb d_M_fails_0 rfl (lv_at hl 1 rfl) ?_
  refine lv_if_eq hx hb d_M_fails_1 rfl (fun _ => ?_) (fun h9 => absurd (by decide) h9)
  refine lv_aload_n hx hb d_M_fails_16 rfl (lv_at hl 0 rfl) ?_
  refine va_get (D := (dC, dI)) (ci := 2) (v := .int (zE r)) (C := R_M) (T := F_M) (N := 11) hx hb hB in_M hown hK hP 0 rfl rfl 0 (by decide) (hB _ bw_355) (fun _ h9 => h9) rfl d_M_fails_17 ?_
  refine lv_if_eq hx hb d_M_fails_20 rfl (fun _ => ?_) (fun h9 => absurd (hE) h9)
  refine lv_iconst (v := bI false) hx hb d_M_fails_27 (by decide) ?_
  exact W.zret (v := bI false) hx hb hr (bI_nar _) (fun t ht hW => ⟨⟨bI false, r, rfl, ⟨rfl, rfl⟩, by show va_P (dC, dI) vwC _ t.heap; rw [ht]; exact hP⟩, hS.F ht⟩) hS.2.2 d_M_fails_28
set_option maxHeartbeats 4000000 in
set_option maxRecDepth 100000 in
theorem m_M_last (l : Launch) (dC : Nat → ClassId) (dI : Nat → Nat → Nat) (k : Nat → ClassId) (a : Nat → Nat) (r : xRS) (j i : Nat) (hj : j < 8) (hi : i < 32) (h1 : 1 ≤ zP r j) (h5 : zP r j ≤ 5) : Met l y_M_last w_M_last (rmx 0 0 0 0) (mRc dC dI k a r [.ref (a 0), .int (nI j), .int (nI i)]) (vp_Si (fun o => o = nI (zAt r j i))) 0 0 (fun _ => False) := by
  refine Met.ofW (cc := c_M_last) (maxL := 3) (ret := (some .int)) (by decide) rfl ?_
  intro p e s m args below meth c s₁ B hml hv
  obtain ⟨rfl, hP, hK⟩ := hv
  have hx := B.exec
  have hb := B.bytes
  have hr := B.returns
  have hts := atoms_spec (ws := w_M_last) B.pre
  have hB : ∀ w ∈ BIG, w.before _ s = true := fun w h => hts w (List.mem_cons_of_mem _ h)
  have hown : s.vm.findClass R_M = some m.cls := findClass_of_methodNamed B.named
  have hlocks := B.notSynchronized
  have hl := lv_entry ([.ref (a 0), .int (nI j), .int (nI i)]) (n := 3) (Nat.le_of_ble_eq_true rfl)
  rw [lg_entry_eq]
  generalize (lg_sl ([.ref (a 0), .int (nI j), .int (nI i)]) ++ List.replicate (3 - (lg_sl ([.ref (a 0), .int (nI j), .int (nI i)])).length) Slot.unset).toArray = ls at hl ⊢
  have hl : lv_has ls 3 [(0, .ref (a 0)), (1, .int (nI j)), (2, .int (nI i))] := hl
  refine lv_iconst (v := nI 5) hx hb d_M_last_0 (by decide) ?_
  refine lv_iload_n hx hb d_M_last_1 rfl (lv_at hl 1 rfl) ?_
  refine lv_imul hx hb d_M_last_2 ?_
  refine W.eq (g2 := F0 m 3 ls [.int (nI (5 * j))]) (by rw [pk_mul]) ?_
  refine lv_aload_n hx hb d_M_last_3 rfl (lv_at hl 0 rfl) ?_
  refine va_get (D := (dC, dI)) (ci := 2) (v := .ref (a 4)) (C := R_M) (T := F_M) (N := 11) hx hb hB in_M hown hK hP 0 rfl rfl 4 (by decide) (hB _ bw_359) (fun _ h9 => h9) rfl d_M_last_4 ?_
  refine lv_iload_n hx hb d_M_last_7 rfl (lv_at hl 1 rfl) ?_
  refine va_iald hx hb hK hP 4 0 rfl rfl (pk_in j 8 (by omega)) d_M_last_8 ?_
  refine W.eq (g2 := F0 m 9 ls [.int (nI (zP r j)), .int (nI (5 * j))]) (by rw [cl_nI (by omega)]) ?_
  refine lv_iadd hx hb d_M_last_9 ?_
  refine W.eq (g2 := F0 m 10 ls [.int (nI ((5 * j) + (zP r j)))]) (by rw [nI_add]) ?_
  refine lv_iconst (v := nI 1) hx hb d_M_last_10 (by decide) ?_
  refine lv_isub hx hb d_M_last_11 ?_
  refine W.eq (g2 := F0 m 12 ls [.int (nI (((5 * j) + (zP r j)) - 1))]) (by rw [pk_sub (by omega)]) ?_
  refine lv_bipush (v := nI 32) hx hb d_M_last_12 (by decide) ?_
  refine lv_imul hx hb d_M_last_14 ?_
  refine W.eq (g2 := F0 m 15 ls [.int (nI ((((5 * j) + (zP r j)) - 1) * 32))]) (by rw [pk_mul]) ?_
  refine lv_iload_n hx hb d_M_last_15 rfl (lv_at hl 2 rfl) ?_
  refine lv_iadd hx hb d_M_last_16 ?_
  refine W.eq (g2 := F0 m 17 ls [.int (nI (((((5 * j) + (zP r j)) - 1) * 32) + i))]) (by rw [nI_add]) ?_
  exact W.iret (v := nI (((((5 * j) + (zP r j)) - 1) * 32) + i)) hx hb hr (fun t ht hW => ⟨_, rfl, rfl, ht⟩) (fun q h => nomatch h) d_M_last_17
set_option maxHeartbeats 4000000 in
set_option maxRecDepth 100000 in
theorem m_M_change (l : Launch) (dC : Nat → ClassId) (dI : Nat → Nat → Nat) (k : Nat → ClassId) (a : Nat → Nat) (sz : Nat) (r : xRS) (i : Nat) (x : Int64) (hi : i < 32) : Met l y_M_change w_M_change (rmx 0 0 0 0) (mPc dC dI k a sz r [.ref (a 0), .int (nI i), .long x]) (va_Qv (fun u => u = zChg r i x) (mB dC dI k a) (va_A (mW k a r) sz)) 0 0 (va_A (mW k a r) sz) := by
  refine Met.ofW (cc := c_M_change) (maxL := 4) (ret := none) (by decide) rfl ?_
  intro p e s m args below meth c s₁ B hml hv
  obtain ⟨rfl, hsz, hP, hK, hD0⟩ := hv
  have hx := B.exec
  have hb := B.bytes
  have hr := B.returns
  have hts := atoms_spec (ws := w_M_change) B.pre
  have hB : ∀ w ∈ BIG, w.before _ s = true := fun w h => hts w (List.mem_cons_of_mem _ h)
  have hown : s.vm.findClass R_M = some m.cls := findClass_of_methodNamed B.named
  have hlocks := B.notSynchronized
  have hl := lv_entry ([.ref (a 0), .int (nI i), .long x]) (n := 4) (Nat.le_of_ble_eq_true rfl)
  rw [lg_entry_eq]
  generalize (lg_sl ([.ref (a 0), .int (nI i), .long x]) ++ List.replicate (4 - (lg_sl ([.ref (a 0), .int (nI i), .long x])).length) Slot.unset).toArray = ls at hl ⊢
  have hl : lv_has ls 4 [(0, .ref (a 0)), (1, .int (nI i)), (2, .long x)] := hl
  subst hsz
  have hD := hD0.self (sz := s.heap.size)
  generalize hAe : va_A (mW k a r) s.heap.size = A at hD ⊢
  have hA : ∀ q : Nat, s.heap.size ≤ q → A q := fun q h => by rw [← hAe]; exact Or.inr h
  have hS : va_S A s.heap s.heap [] := va_S.rf
  have hDk := hD
  refine lv_aload_n hx hb d_M_change_0 rfl (lv_at hl 0 rfl) ?_
  refine va_get (D := (dC, dI)) (ci := 2) (v := .ref (a 1)) (C := R_M) (T := F_M) (N := 11) hx hb hB in_M hown hK hP 0 rfl rfl 1 (by decide) (hB _ bw_356) (fun _ h9 => h9) rfl d_M_change_1 ?_
  refine lv_iload_n hx hb d_M_change_4 rfl (lv_at hl 1 rfl) ?_
  refine lv_lload_n hx hb d_M_change_5 rfl (lv_at hl 2 rfl) ?_
  refine va_last hx hb hK hP hD hS 1 1 rfl rfl (pk_in i 32 (by omega)) d_M_change_6 (fun H locs hP hD hS => ?_)
  rw [cl_nI (by omega)] at hP
  have hP : va_P (dC, dI) vwC (mW k a (zE r, vp_updL (zC r) i x, zW r, zG r, zP r, zS r, zH r, zR r, zO r, zD r, zL r)) H := hP
  have hD : va_D A (mW k a (zE r, vp_updL (zC r) i x, zW r, zG r, zP r, zS r, zH r, zR r, zO r, zD r, zL r)) := mW_D hDk
  refine lv_aload_n hx hb d_M_change_7 rfl (lv_at hl 0 rfl) ?_
  refine va_get (D := (dC, dI)) (ci := 2) (v := .ref (a 3)) (C := R_M) (T := F_M) (N := 11) hx hb hB in_M hown hK hP 0 rfl rfl 3 (by decide) (hB _ bw_358) (fun _ h9 => h9) rfl d_M_change_8 ?_
  refine lv_iload_n hx hb d_M_change_11 rfl (lv_at hl 1 rfl) ?_
  refine lv_dup2_11 hx hb d_M_change_12 rfl rfl ?_
  refine va_iald hx hb hK hP 3 0 rfl rfl (pk_in i 32 (by omega)) d_M_change_13 ?_
  refine W.eq (g2 := F0 m 14 ls [.int (zG r i), .int (nI i), .ref (a 3)]) (by rw [cl_nI (by omega)]) ?_
  refine lv_iconst (v := nI 1) hx hb d_M_change_14 (by decide) ?_
  refine lv_iadd hx hb d_M_change_15 ?_
  refine va_iast hx hb hK hP hD hS 3 0 rfl rfl (pk_in i 32 (by omega)) d_M_change_16 (fun H locs hP hD hS => ?_)
  rw [cl_nI (by omega)] at hP
  have hP : va_P (dC, dI) vwC (mW k a (zE r, vp_updL (zC r) i x, zW r, upd (zG r) i ((zG r i) + (nI 1)), zP r, zS r, zH r, zR r, zO r, zD r, zL r)) H := hP
  have hD : va_D A (mW k a (zE r, vp_updL (zC r) i x, zW r, upd (zG r) i ((zG r i) + (nI 1)), zP r, zS r, zH r, zR r, zO r, zD r, zL r)) := mW_D hDk
  exact W.vret hx hb hr (fun t ht hW => ⟨⟨zChg r i x, rfl, rfl, by show va_P (dC, dI) vwC _ t.heap; rw [ht]; exact hP⟩, hS.F ht⟩) hS.2.2 d_M_change_17
set_option maxHeartbeats 4000000 in
set_option maxRecDepth 100000 in
theorem m_M_isStale (l : Launch) (dC : Nat → ClassId) (dI : Nat → Nat → Nat) (k : Nat → ClassId) (a : Nat → Nat) (r : xRS) (j : Nat) (hj : j < 8) : Met l y_M_isStale w_M_isStale (rmx 0 0 0 0) (mRc dC dI k a r [.ref (a 0), .int (nI j)]) (vp_Si (fun o => o = bI (zSt r j 32))) 0 0 (fun _ => False) := by
  refine Met.ofW (cc := c_M_isStale) (maxL := 3) (ret := (some .boolean)) (by decide) rfl ?_
  intro p e s m args below meth c s₁ B hml hv
  obtain ⟨rfl, hP, hK⟩ := hv
  have hx := B.exec
  have hb := B.bytes
  have hr := B.returns
  have hts := atoms_spec (ws := w_M_isStale) B.pre
  have hB : ∀ w ∈ BIG, w.before _ s = true := fun w h => hts w (List.mem_cons_of_mem _ h)
  have hown : s.vm.findClass R_M = some m.cls := findClass_of_methodNamed B.named
  have hlocks := B.notSynchronized
  have hl := lv_entry ([.ref (a 0), .int (nI j)]) (n := 3) (Nat.le_of_ble_eq_true rfl)
  rw [lg_entry_eq]
  generalize (lg_sl ([.ref (a 0), .int (nI j)]) ++ List.replicate (3 - (lg_sl ([.ref (a 0), .int (nI j)])).length) Slot.unset).toArray = ls at hl ⊢
  have hl : lv_has ls 3 [(0, .ref (a 0)), (1, .int (nI j))] := hl
  refine lv_iconst (v := nI 0) hx hb d_M_isStale_0 (by decide) ?_
  refine lv_istore_n hx hb d_M_isStale_1 rfl hl (by decide) rfl (fun ls hl => ?_)
  have hl : lv_has ls 3 [(2, .int (nI 0)), (0, .ref (a 0)), (1, .int (nI j))] := hl
  suffices key : ∀ n i (ls : Array Slot), i ≤ 32 → 32 - i = n → zSt r j i = false → lv_has ls 3 [(2, .int (nI i)), (0, .ref (a 0)), (1, .int (nI j))] → W p l e _ s m _ below meth c s.heap [] 0 0 (MQ below (vp_Si (fun o => o = bI (zSt r j 32))) _ s 0 0 (fun _ => False)) (F0 m 2 ls []) from key _ 0 ls (by omega) rfl rfl hl
  intro n
  induction n with
  | zero =>
    intro i ls hi hn hf hl
    have hie : i = 32 := by omega
    subst hie
    refine lv_iload_n hx hb d_M_isStale_2 rfl (lv_at hl 0 rfl) ?_
    refine lv_bipush (v := nI 32) hx hb d_M_isStale_3 (by decide) ?_
    refine lv_icmp_ge hx hb d_M_isStale_5 rfl (fun _ => ?_) (fun h9 => absurd (nI_le (Nat.le_refl 32) (by omega)) h9)
    refine lv_iconst (v := bI (zSt r j 32)) hx hb d_M_isStale_50 (by rw [hf]; decide) ?_
    exact W.zret (v := bI (zSt r j 32)) hx hb hr (bI_nar _) (fun t ht hW => ⟨_, rfl, rfl, ht⟩) (fun q h => nomatch h) d_M_isStale_51
  | succ n ih =>
    intro i ls hi hn hf hl
    have hlt : i < 32 := by omega
    have hs : zSt r j (i + 1) = (zSt r j i || (zR r (32 * j + i) && decide (zS r (32 * j + i) ≠ zG r i))) := rfl
    refine lv_iload_n hx hb d_M_isStale_2 rfl (lv_at hl 0 rfl) ?_
    refine lv_bipush (v := nI 32) hx hb d_M_isStale_3 (by decide) ?_
    refine lv_icmp_ge hx hb d_M_isStale_5 rfl (fun h9 => absurd h9 (nI_ge hlt (by omega))) (fun _ => ?_)
    refine lv_aload_n hx hb d_M_isStale_8 rfl (lv_at hl 1 rfl) ?_
    refine va_get (D := (dC, dI)) (ci := 2) (v := .ref (a 7)) (C := R_M) (T := F_M) (N := 11) hx hb hB in_M hown hK hP 0 rfl rfl 7 (by decide) (hB _ bw_362) (fun _ h9 => h9) rfl d_M_isStale_9 ?_
    refine lv_bipush (v := nI 32) hx hb d_M_isStale_12 (by decide) ?_
    refine lv_iload_n hx hb d_M_isStale_14 rfl (lv_at hl 2 rfl) ?_
    refine lv_imul hx hb d_M_isStale_15 ?_
    refine W.eq (g2 := F0 m 16 ls [.int (nI (32 * j)), .ref (a 7)]) (by rw [pk_mul]) ?_
    refine lv_iload_n hx hb d_M_isStale_16 rfl (lv_at hl 0 rfl) ?_
    refine lv_iadd hx hb d_M_isStale_17 ?_
    refine W.eq (g2 := F0 m 18 ls [.int (nI ((32 * j) + i)), .ref (a 7)]) (by rw [nI_add]) ?_
    refine va_zald hx hb hK hP 7 4 rfl rfl (pk_in ((32 * j) + i) 256 (by omega)) d_M_isStale_18 ?_
    refine W.eq (g2 := F0 m 19 ls [.int (bI (zR r ((32 * j) + i)))]) (by rw [cl_nI (by omega)]) ?_
    refine lv_if_eq hx hb d_M_isStale_19 rfl (fun h9 => ?_) (fun h9 => ?_)
    · have h8 : zR r (32 * j + i) = false := bI_ne.mp h9
      refine lv_iinc (k := 0) (v := nI (i + 1)) hx hb d_M_isStale_44 hl rfl (nI_1 i) (by decide) rfl (fun ls hl => ?_)
      have hl : lv_has ls 3 [(2, .int (nI (i + 1))), (0, .ref (a 0)), (1, .int (nI j))] := hl
      refine lv_goto hx hb d_M_isStale_47 rfl ?_
      exact ih (i + 1) ls (by omega) (by omega) (by rw [hs, hf, h8]; rfl) hl
    · have h8 : zR r (32 * j + i) = true := by cases hc : zR r (32 * j + i); exact absurd (bI_ne.mpr hc) h9; rfl
      refine lv_aload_n hx hb d_M_isStale_22 rfl (lv_at hl 1 rfl) ?_
      refine va_get (D := (dC, dI)) (ci := 2) (v := .ref (a 5)) (C := R_M) (T := F_M) (N := 11) hx hb hB in_M hown hK hP 0 rfl rfl 5 (by decide) (hB _ bw_360) (fun _ h9 => h9) rfl d_M_isStale_23 ?_
      refine lv_bipush (v := nI 32) hx hb d_M_isStale_26 (by decide) ?_
      refine lv_iload_n hx hb d_M_isStale_28 rfl (lv_at hl 2 rfl) ?_
      refine lv_imul hx hb d_M_isStale_29 ?_
      refine W.eq (g2 := F0 m 30 ls [.int (nI (32 * j)), .ref (a 5)]) (by rw [pk_mul]) ?_
      refine lv_iload_n hx hb d_M_isStale_30 rfl (lv_at hl 0 rfl) ?_
      refine lv_iadd hx hb d_M_isStale_31 ?_
      refine W.eq (g2 := F0 m 32 ls [.int (nI ((32 * j) + i)), .ref (a 5)]) (by rw [nI_add]) ?_
      refine va_iald hx hb hK hP 5 0 rfl rfl (pk_in ((32 * j) + i) 256 (by omega)) d_M_isStale_32 ?_
      refine W.eq (g2 := F0 m 33 ls [.int (zS r ((32 * j) + i))]) (by rw [cl_nI (by omega)]) ?_
      refine lv_aload_n hx hb d_M_isStale_33 rfl (lv_at hl 1 rfl) ?_
      refine va_get (D := (dC, dI)) (ci := 2) (v := .ref (a 3)) (C := R_M) (T := F_M) (N := 11) hx hb hB in_M hown hK hP 0 rfl rfl 3 (by decide) (hB _ bw_358) (fun _ h9 => h9) rfl d_M_isStale_34 ?_
      refine lv_iload_n hx hb d_M_isStale_37 rfl (lv_at hl 0 rfl) ?_
      refine va_iald hx hb hK hP 3 0 rfl rfl (pk_in i 32 (by omega)) d_M_isStale_38 ?_
      refine W.eq (g2 := F0 m 39 ls [.int (zG r i), .int (zS r ((32 * j) + i))]) (by rw [cl_nI (by omega)]) ?_
      refine lv_icmp_eq hx hb d_M_isStale_39 rfl (fun h7 => ?_) (fun h7 => ?_)
      · have h6 : decide (zS r (32 * j + i) ≠ zG r i) = false := decide_eq_false (fun q => q h7)
        refine lv_iinc (k := 0) (v := nI (i + 1)) hx hb d_M_isStale_44 hl rfl (nI_1 i) (by decide) rfl (fun ls hl => ?_)
        have hl : lv_has ls 3 [(2, .int (nI (i + 1))), (0, .ref (a 0)), (1, .int (nI j))] := hl
        refine lv_goto hx hb d_M_isStale_47 rfl ?_
        exact ih (i + 1) ls (by omega) (by omega) (by rw [hs, hf, h8, h6]; rfl) hl
      · have h6 : decide (zS r (32 * j + i) ≠ zG r i) = true := decide_eq_true h7
        have h5 : zSt r j (i + 1) = true := by rw [hs, h8, h6]; simp
        have h4 : zSt r j 32 = true := zSt_up h5 (by omega)
        refine lv_iconst (v := bI (zSt r j 32)) hx hb d_M_isStale_42 (by rw [h4]; decide) ?_
        exact W.zret (v := bI (zSt r j 32)) hx hb hr (bI_nar _) (fun t ht hW => ⟨_, rfl, rfl, ht⟩) (fun q h => nomatch h) d_M_isStale_43
set_option maxHeartbeats 4000000 in
set_option maxRecDepth 100000 in
theorem m_M_copy (l : Launch) (dC : Nat → ClassId) (dI : Nat → Nat → Nat) (k : Nat → ClassId) (a : Nat → Nat) (sz : Nat) (r : xRS) (f g : Nat) (hf : f + 32 ≤ 1280) (hg : g + 32 ≤ 1280) : Met l y_M_copy w_M_copy (rmx 0 0 0 0) (mPc dC dI k a sz r [.ref (a 0), .int (nI f), .int (nI g)]) (va_Qv (fun u => u = (zE r, zC r, zCpL (zW r) f g 32, zG r, zP r, zS r, zCpB (zH r) f g 32, zR r, zO r, zD r, zL r)) (mB dC dI k a) (va_A (mW k a r) sz)) 0 0 (va_A (mW k a r) sz) := by
  refine Met.ofW (cc := c_M_copy) (maxL := 4) (ret := none) (by decide) rfl ?_
  intro p e s m args below meth c s₁ B hml hv
  obtain ⟨rfl, hsz, hP, hK, hD0⟩ := hv
  have hx := B.exec
  have hb := B.bytes
  have hr := B.returns
  have hts := atoms_spec (ws := w_M_copy) B.pre
  have hB : ∀ w ∈ BIG, w.before _ s = true := fun w h => hts w (List.mem_cons_of_mem _ h)
  have hown : s.vm.findClass R_M = some m.cls := findClass_of_methodNamed B.named
  have hlocks := B.notSynchronized
  have hl := lv_entry ([.ref (a 0), .int (nI f), .int (nI g)]) (n := 4) (Nat.le_of_ble_eq_true rfl)
  rw [lg_entry_eq]
  generalize (lg_sl ([.ref (a 0), .int (nI f), .int (nI g)]) ++ List.replicate (4 - (lg_sl ([.ref (a 0), .int (nI f), .int (nI g)])).length) Slot.unset).toArray = ls at hl ⊢
  have hl : lv_has ls 4 [(0, .ref (a 0)), (1, .int (nI f)), (2, .int (nI g))] := hl
  subst hsz
  have hD := hD0.self (sz := s.heap.size)
  generalize hAe : va_A (mW k a r) s.heap.size = A at hD ⊢
  have hA : ∀ q : Nat, s.heap.size ≤ q → A q := fun q h => by rw [← hAe]; exact Or.inr h
  have hS : va_S A s.heap s.heap [] := va_S.rf
  have hDk := hD
  refine lv_iconst (v := nI 0) hx hb d_M_copy_0 (by decide) ?_
  refine lv_istore_n hx hb d_M_copy_1 rfl hl (by decide) rfl (fun ls hl => ?_)
  have hl : lv_has ls 4 [(3, .int (nI 0)), (0, .ref (a 0)), (1, .int (nI f)), (2, .int (nI g))] := hl
  suffices key : ∀ n i (H : Heap) (locs : List Loc) (ls : Array Slot), i ≤ 32 → 32 - i = n → lv_has ls 4 [(3, .int (nI i)), (0, .ref (a 0)), (1, .int (nI f)), (2, .int (nI g))] → va_P (dC, dI) vwC (mW k a (zE r, zC r, zCpL (zW r) f g i, zG r, zP r, zS r, zCpB (zH r) f g i, zR r, zO r, zD r, zL r)) H → va_S A s.heap H locs → W p l e _ s m _ below meth c H locs 0 0 (MQ below (va_Qv (fun u => u = (zE r, zC r, zCpL (zW r) f g 32, zG r, zP r, zS r, zCpB (zH r) f g 32, zR r, zO r, zD r, zL r)) (mB dC dI k a) A) _ s 0 0 A) (F0 m 2 ls []) from key _ 0 _ _ ls (by omega) rfl hl hP hS
  intro n
  induction n with
  | zero =>
    intro i H locs ls hi hn hl hP hS
    have hie : i = 32 := by omega
    subst hie
    refine lv_iload_n hx hb d_M_copy_2 rfl (lv_at hl 0 rfl) ?_
    refine lv_bipush (v := nI 32) hx hb d_M_copy_3 (by decide) ?_
    refine lv_icmp_ge hx hb d_M_copy_5 rfl (fun _ => ?_) (fun h9 => absurd (nI_le (Nat.le_refl 32) (by omega)) h9)
    exact W.vret hx hb hr (fun t ht hW => ⟨⟨_, rfl, rfl, by show va_P (dC, dI) vwC _ t.heap; rw [ht]; exact hP⟩, hS.F ht⟩) hS.2.2 d_M_copy_46
  | succ n ih =>
    intro i H locs ls hi hn hl hP hS
    have hlt : i < 32 := by omega
    have hD : va_D A (mW k a (zE r, zC r, zCpL (zW r) f g i, zG r, zP r, zS r, zCpB (zH r) f g i, zR r, zO r, zD r, zL r)) := mW_D hDk
    refine lv_iload_n hx hb d_M_copy_2 rfl (lv_at hl 0 rfl) ?_
    refine lv_bipush (v := nI 32) hx hb d_M_copy_3 (by decide) ?_
    refine lv_icmp_ge hx hb d_M_copy_5 rfl (fun h9 => absurd h9 (nI_ge hlt (by omega))) (fun _ => ?_)
    refine lv_aload_n hx hb d_M_copy_8 rfl (lv_at hl 1 rfl) ?_
    refine va_get (D := (dC, dI)) (ci := 2) (v := .ref (a 6)) (C := R_M) (T := F_M) (N := 11) hx hb hB in_M hown hK hP 0 rfl rfl 6 (by decide) (hB _ bw_361) (fun _ h9 => h9) rfl d_M_copy_9 ?_
    refine lv_iload_n hx hb d_M_copy_12 rfl (lv_at hl 3 rfl) ?_
    refine lv_iload_n hx hb d_M_copy_13 rfl (lv_at hl 0 rfl) ?_
    refine lv_iadd hx hb d_M_copy_14 ?_
    refine W.eq (g2 := F0 m 15 ls [.int (nI (g + i)), .ref (a 6)]) (by rw [nI_add]) ?_
    refine lv_aload_n hx hb d_M_copy_15 rfl (lv_at hl 1 rfl) ?_
    refine va_get (D := (dC, dI)) (ci := 2) (v := .ref (a 6)) (C := R_M) (T := F_M) (N := 11) hx hb hB in_M hown hK hP 0 rfl rfl 6 (by decide) (hB _ bw_361) (fun _ h9 => h9) rfl d_M_copy_16 ?_
    refine lv_iload_n hx hb d_M_copy_19 rfl (lv_at hl 2 rfl) ?_
    refine lv_iload_n hx hb d_M_copy_20 rfl (lv_at hl 0 rfl) ?_
    refine lv_iadd hx hb d_M_copy_21 ?_
    refine W.eq (g2 := F0 m 22 ls [.int (nI (f + i)), .ref (a 6), .int (nI (g + i)), .ref (a 6)]) (by rw [nI_add]) ?_
    refine va_zald hx hb hK hP 6 4 rfl rfl (pk_in (f + i) 1280 (by omega)) d_M_copy_22 ?_
    refine W.eq (g2 := F0 m 23 ls [.int (bI ((zCpB (zH r) f g i) (f + i))), .int (nI (g + i)), .ref (a 6)]) (by rw [cl_nI (by omega)]) ?_
    refine va_zast hx hb hK hP hD hS 6 4 rfl rfl (pk_in (g + i) 1280 (by omega)) d_M_copy_23 (fun H locs hP hD hS => ?_)
    rw [cl_nI (by omega), bI_upd] at hP
    have hP : va_P (dC, dI) vwC (mW k a (zE r, zC r, zCpL (zW r) f g i, zG r, zP r, zS r, va_up (zCpB (zH r) f g i) (g + i) ((zCpB (zH r) f g i) (f + i)), zR r, zO r, zD r, zL r)) H := hP
    have hD : va_D A (mW k a (zE r, zC r, zCpL (zW r) f g i, zG r, zP r, zS r, va_up (zCpB (zH r) f g i) (g + i) ((zCpB (zH r) f g i) (f + i)), zR r, zO r, zD r, zL r)) := mW_D hDk
    refine lv_aload_n hx hb d_M_copy_24 rfl (lv_at hl 1 rfl) ?_
    refine va_get (D := (dC, dI)) (ci := 2) (v := .ref (a 2)) (C := R_M) (T := F_M) (N := 11) hx hb hB in_M hown hK hP 0 rfl rfl 2 (by decide) (hB _ bw_357) (fun _ h9 => h9) rfl d_M_copy_25 ?_
    refine lv_iload_n hx hb d_M_copy_28 rfl (lv_at hl 3 rfl) ?_
    refine lv_iload_n hx hb d_M_copy_29 rfl (lv_at hl 0 rfl) ?_
    refine lv_iadd hx hb d_M_copy_30 ?_
    refine W.eq (g2 := F0 m 31 ls [.int (nI (g + i)), .ref (a 2)]) (by rw [nI_add]) ?_
    refine lv_aload_n hx hb d_M_copy_31 rfl (lv_at hl 1 rfl) ?_
    refine va_get (D := (dC, dI)) (ci := 2) (v := .ref (a 2)) (C := R_M) (T := F_M) (N := 11) hx hb hB in_M hown hK hP 0 rfl rfl 2 (by decide) (hB _ bw_357) (fun _ h9 => h9) rfl d_M_copy_32 ?_
    refine lv_iload_n hx hb d_M_copy_35 rfl (lv_at hl 2 rfl) ?_
    refine lv_iload_n hx hb d_M_copy_36 rfl (lv_at hl 0 rfl) ?_
    refine lv_iadd hx hb d_M_copy_37 ?_
    refine W.eq (g2 := F0 m 38 ls [.int (nI (f + i)), .ref (a 2), .int (nI (g + i)), .ref (a 2)]) (by rw [nI_add]) ?_
    refine va_lald hx hb hK hP 2 1 rfl rfl (pk_in (f + i) 1280 (by omega)) d_M_copy_38 ?_
    refine W.eq (g2 := F0 m 39 ls [.long ((zCpL (zW r) f g i) (f + i)), .int (nI (g + i)), .ref (a 2)]) (by rw [cl_nI (by omega)]) ?_
    refine va_last hx hb hK hP hD hS 2 1 rfl rfl (pk_in (g + i) 1280 (by omega)) d_M_copy_39 (fun H locs hP hD hS => ?_)
    rw [cl_nI (by omega)] at hP
    have hP : va_P (dC, dI) vwC (mW k a (zE r, zC r, vp_updL (zCpL (zW r) f g i) (g + i) ((zCpL (zW r) f g i) (f + i)), zG r, zP r, zS r, va_up (zCpB (zH r) f g i) (g + i) ((zCpB (zH r) f g i) (f + i)), zR r, zO r, zD r, zL r)) H := hP
    have hD : va_D A (mW k a (zE r, zC r, vp_updL (zCpL (zW r) f g i) (g + i) ((zCpL (zW r) f g i) (f + i)), zG r, zP r, zS r, va_up (zCpB (zH r) f g i) (g + i) ((zCpB (zH r) f g i) (f + i)), zR r, zO r, zD r, zL r)) := mW_D hDk
    refine lv_iinc (k := 0) (v := nI (i + 1)) hx hb d_M_copy_40 hl rfl (nI_1 i) (by decide) rfl (fun ls hl => ?_)
    have hl : lv_has ls 4 [(3, .int (nI (i + 1))), (0, .ref (a 0)), (1, .int (nI f)), (2, .int (nI g))] := hl
    refine lv_goto hx hb d_M_copy_43 rfl ?_
    exact ih (i + 1) H locs ls (by omega) (by omega) hl hP hS
end
section
/-! The reference: the guards, and the methods without a loop of their own. -/
set_option maxHeartbeats 4000000 in
set_option maxRecDepth 100000 in
theorem m_M_leave (l : Launch) (dC : Nat → ClassId) (dI : Nat → Nat → Nat) (k : Nat → ClassId) (a : Nat → Nat) (sz : Nat) (r : xRS) (tt : Int32) : Met l y_M_leave w_M_leave (rmx 2 0 0 80) (mPc dC dI k a sz r [.ref (a 0), .int tt]) (va_Qv (fun u => u = zLeave r tt) (mB dC dI k a) (va_A (mW k a r) sz)) 0 0 (va_A (mW k a r) sz) := by
  refine Met.ofW (cc := c_M_leave) (maxL := 2) (ret := none) (by decide) rfl ?_
  intro p e s m args below meth c s₁ B hml hv
  obtain ⟨rfl, hsz, hP, hK, hD0⟩ := hv
  have hx := B.exec
  have hb := B.bytes
  have hr := B.returns
  have hts := atoms_spec (ws := w_M_leave) B.pre
  have hB : ∀ w ∈ BIG, w.before _ s = true := fun w h => hts w (List.mem_cons_of_mem _ h)
  have hown : s.vm.findClass R_M = some m.cls := findClass_of_methodNamed B.named
  have hlocks := B.notSynchronized
  have hl := lv_entry ([.ref (a 0), .int tt]) (n := 2) (Nat.le_of_ble_eq_true rfl)
  rw [lg_entry_eq]
  generalize (lg_sl ([.ref (a 0), .int tt]) ++ List.replicate (2 - (lg_sl ([.ref (a 0), .int tt])).length) Slot.unset).toArray = ls at hl ⊢
  have hl : lv_has ls 2 [(0, .ref (a 0)), (1, .int tt)] := hl
  subst hsz
  have hD := hD0.self (sz := s.heap.size)
  generalize hAe : va_A (mW k a r) s.heap.size = A at hD ⊢
  have hA : ∀ q : Nat, s.heap.size ≤ q → A q := fun q h => by rw [← hAe]; exact Or.inr h
  have hS : va_S A s.heap s.heap [] := va_S.rf
  have hDk := hD
  cases hq : ix 8 tt with
  | none =>
    refine lv_aload_n hx hb d_M_leave_0 rfl (lv_at hl 0 rfl) ?_
    refine lv_iconst (v := 0) hx hb d_M_leave_1 (by decide) ?_
    refine va_put (D := (dC, dI)) (ci := 2) (v := .int 0) (ty := .int) (C := R_M) (T := F_M) (N := 11) hx hb hB in_M tf_M ty_M nm_M hown hK hP hD hS 0 rfl rfl 0 (by decide) (hB _ bw_355) (fun _ h9 => h9) rfl (by decide +kernel) rfl rfl (Nat.le_of_ble_eq_true rfl) d_M_leave_2 (fun H locs hP hD hS => ?_)
    have hP : va_P (dC, dI) vwC (mW k a (0, zC r, zW r, zG r, zP r, zS r, zH r, zR r, zO r, zD r, zL r)) H := hP
    have hD : va_D A (mW k a (0, zC r, zW r, zG r, zP r, zS r, zH r, zR r, zO r, zD r, zL r)) := hD
    refine lv_aload_n hx hb d_M_leave_5 rfl (lv_at hl 0 rfl) ?_
    refine lv_iload_n hx hb d_M_leave_6 rfl (lv_at hl 1 rfl) ?_
    refine vp_callSi (va_Run.run (va_runS (As := [.int tt]) (rest := [.ref (a 0)]) ⟨hx, hb, hml, hown, hB⟩ (m_M_isOne l tt) (va_cwS 1 hB (BIG_SS bw_387 bw_388 bw_18 bw_389) rfl rfl rfl ⟨by decide, by decide, by decide +kernel⟩ ⟨Nat.le_of_ble_eq_true rfl, Nat.le_of_ble_eq_true rfl⟩) preEq rfl rfl hl.1 rfl (lv_room (Nat.le_of_ble_eq_true rfl)) d_M_leave_7 ⟨Nat.zero_le _, Nat.zero_le _⟩)) (fun r7 hr7 => ?_)
    refine W.eq (g2 := F0 m 10 ls [.int (bI false), .ref (a 0)]) (by rw [hr7, hq]; rfl) ?_
    refine lv_if_ne hx hb d_M_leave_10 rfl (fun h9 => absurd h9 (by decide)) (fun _ => ?_)
    refine lv_iconst (v := bI true) hx hb d_M_leave_13 (by decide) ?_
    refine lv_goto hx hb d_M_leave_14 rfl ?_
    refine lv_iconst (v := 1) hx hb d_M_leave_18 (by decide) ?_
    have hFc := va_free (wc := mW k a (0, zC r, zW r, zG r, zP r, zS r, zH r, zR r, zO r, zD r, zL r)) hD hS hA [0, 1, 2, 3, 4, 5, 6, 7, 8] rfl
    refine va_calli (va_runV (As := [.int (bI true), .int 1]) (rest := []) ⟨hx, hb, hml, hown, hB⟩ (m_M_fails_t l dC dI k a _ (0, zC r, zW r, zG r, zP r, zS r, zH r, zR r, zO r, zD r, zL r) 1 rfl (by decide)) (cwV 2 hB (BIG_V bw_394 bw_395 bw_10 bw_18 bw_396) rfl rfl rfl ⟨rfl, by decide, by decide, by decide +kernel⟩ ⟨Nat.le_of_ble_eq_true rfl, Nat.le_of_ble_eq_true rfl⟩) (mPc_pre _ hP hK hD) rfl rfl hl.1 rfl (lv_room (Nat.le_of_ble_eq_true rfl)) d_M_leave_19 ⟨Nat.zero_le _, Nat.zero_le _⟩) hS (fun q _ h => hFc q h) hFc (fun r7 u t H1 locs ht hvm hw hB1 hz1 hk1 hS => ?_)
    obtain ⟨hw1, hw2⟩ := hw
    subst hw1
    subst hw2
    have hP : va_P (dC, dI) vwC (mW k a (zErr (0, zC r, zW r, zG r, zP r, zS r, zH r, zR r, zO r, zD r, zL r) 1)) H1 := by rw [← ht]; exact hB1
    have hD : va_D A (mW k a (zErr (0, zC r, zW r, zG r, zP r, zS r, zH r, zR r, zO r, zD r, zL r) 1)) := mW_D hDk
    clear hFc hB1 hk1 hz1 ht hvm
    generalize H1 = H at hP hS ⊢
    have hP : va_P (dC, dI) vwC (mW k a (1, zC r, zW r, zG r, zP r, zS r, zH r, zR r, zO r, zD r, zL r)) H := hP
    have hD : va_D A (mW k a (1, zC r, zW r, zG r, zP r, zS r, zH r, zR r, zO r, zD r, zL r)) := hD
    refine lv_if_ne hx hb d_M_leave_22 rfl (fun _ => ?_) (fun h9 => absurd h9 (by decide))
    exact W.vret hx hb hr (fun t ht hW => ⟨⟨(1, zC r, zW r, zG r, zP r, zS r, zH r, zR r, zO r, zD r, zL r), rfl, by unfold zLeave; rw [hq]; first | done | rfl, by show va_P (dC, dI) vwC _ t.heap; rw [ht]; exact hP⟩, hS.F ht⟩) hS.2.2 d_M_leave_47
  | some j =>
    obtain ⟨hj, htj⟩ := ix_some (by decide) hq
    subst htj
    cases ho : zO r j with
    | false =>
      refine lv_aload_n hx hb d_M_leave_0 rfl (lv_at hl 0 rfl) ?_
      refine lv_iconst (v := 0) hx hb d_M_leave_1 (by decide) ?_
      refine va_put (D := (dC, dI)) (ci := 2) (v := .int 0) (ty := .int) (C := R_M) (T := F_M) (N := 11) hx hb hB in_M tf_M ty_M nm_M hown hK hP hD hS 0 rfl rfl 0 (by decide) (hB _ bw_355) (fun _ h9 => h9) rfl (by decide +kernel) rfl rfl (Nat.le_of_ble_eq_true rfl) d_M_leave_2 (fun H locs hP hD hS => ?_)
      have hP : va_P (dC, dI) vwC (mW k a (0, zC r, zW r, zG r, zP r, zS r, zH r, zR r, zO r, zD r, zL r)) H := hP
      have hD : va_D A (mW k a (0, zC r, zW r, zG r, zP r, zS r, zH r, zR r, zO r, zD r, zL r)) := hD
      refine lv_aload_n hx hb d_M_leave_5 rfl (lv_at hl 0 rfl) ?_
      refine lv_iload_n hx hb d_M_leave_6 rfl (lv_at hl 1 rfl) ?_
      refine vp_callSi (va_Run.run (va_runS (As := [.int (nI j)]) (rest := [.ref (a 0)]) ⟨hx, hb, hml, hown, hB⟩ (m_M_isOne l (nI j)) (va_cwS 1 hB (BIG_SS bw_387 bw_388 bw_18 bw_389) rfl rfl rfl ⟨by decide, by decide, by decide +kernel⟩ ⟨Nat.le_of_ble_eq_true rfl, Nat.le_of_ble_eq_true rfl⟩) preEq rfl rfl hl.1 rfl (lv_room (Nat.le_of_ble_eq_true rfl)) d_M_leave_7 ⟨Nat.zero_le _, Nat.zero_le _⟩)) (fun r7 hr7 => ?_)
      refine W.eq (g2 := F0 m 10 ls [.int (bI true), .ref (a 0)]) (by rw [hr7, hq]; rfl) ?_
      refine lv_if_ne hx hb d_M_leave_10 rfl (fun _ => ?_) (fun h9 => absurd h9 (by decide))
      refine lv_iconst (v := bI false) hx hb d_M_leave_17 (by decide) ?_
      refine lv_iconst (v := 1) hx hb d_M_leave_18 (by decide) ?_
      have hFc := va_free (wc := mW k a (0, zC r, zW r, zG r, zP r, zS r, zH r, zR r, zO r, zD r, zL r)) hD hS hA [0, 1, 2, 3, 4, 5, 6, 7, 8] rfl
      refine va_calli (va_runV (As := [.int (bI false), .int 1]) (rest := []) ⟨hx, hb, hml, hown, hB⟩ (m_M_fails_f l dC dI k a _ (0, zC r, zW r, zG r, zP r, zS r, zH r, zR r, zO r, zD r, zL r) 1 rfl) (cwV 2 hB (BIG_V bw_394 bw_395 bw_10 bw_18 bw_396) rfl rfl rfl ⟨rfl, by decide, by decide, by decide +kernel⟩ ⟨Nat.le_of_ble_eq_true rfl, Nat.le_of_ble_eq_true rfl⟩) (mPc_pre _ hP hK hD) rfl rfl hl.1 rfl (lv_room (Nat.le_of_ble_eq_true rfl)) d_M_leave_19 ⟨Nat.zero_le _, Nat.zero_le _⟩) hS (fun q _ h => hFc q h) hFc (fun r7 u t H1 locs ht hvm hw hB1 hz1 hk1 hS => ?_)
      obtain ⟨hw1, hw2⟩ := hw
      subst hw1
      subst hw2
      have hP : va_P (dC, dI) vwC (mW k a (0, zC r, zW r, zG r, zP r, zS r, zH r, zR r, zO r, zD r, zL r)) H1 := by rw [← ht]; exact hB1
      have hD : va_D A (mW k a (0, zC r, zW r, zG r, zP r, zS r, zH r, zR r, zO r, zD r, zL r)) := mW_D hDk
      clear hFc hB1 hk1 hz1 ht hvm
      generalize H1 = H at hP hS ⊢
      refine lv_if_ne hx hb d_M_leave_22 rfl (fun h9 => absurd h9 (by decide)) (fun _ => ?_)
      refine lv_aload_n hx hb d_M_leave_25 rfl (lv_at hl 0 rfl) ?_
      refine lv_aload_n hx hb d_M_leave_26 rfl (lv_at hl 0 rfl) ?_
      refine va_get (D := (dC, dI)) (ci := 2) (v := .ref (a 8)) (C := R_M) (T := F_M) (N := 11) hx hb hB in_M hown hK hP 0 rfl rfl 8 (by decide) (hB _ bw_363) (fun _ h9 => h9) rfl d_M_leave_27 ?_
      refine lv_iload_n hx hb d_M_leave_30 rfl (lv_at hl 1 rfl) ?_
      refine va_zald hx hb hK hP 8 4 rfl rfl (pk_in j 8 (by omega)) d_M_leave_31 ?_
      refine W.eq (g2 := F0 m 32 ls [.int (bI (zO r j)), .ref (a 0)]) (by rw [cl_nI (by omega)]) ?_
      refine W.eq (g2 := F0 m 32 ls [.int (bI false), .ref (a 0)]) (by rw [ho]) ?_
      refine lv_if_ne hx hb d_M_leave_32 rfl (fun h9 => absurd h9 (by decide)) (fun _ => ?_)
      refine lv_iconst (v := bI true) hx hb d_M_leave_35 (by decide) ?_
      refine lv_goto hx hb d_M_leave_36 rfl ?_
      refine lv_iconst (v := 2) hx hb d_M_leave_40 (by decide) ?_
      have hFc := va_free (wc := mW k a (0, zC r, zW r, zG r, zP r, zS r, zH r, zR r, zO r, zD r, zL r)) hD hS hA [0, 1, 2, 3, 4, 5, 6, 7, 8] rfl
      refine va_calli (va_runV (As := [.int (bI true), .int 2]) (rest := []) ⟨hx, hb, hml, hown, hB⟩ (m_M_fails_t l dC dI k a _ (0, zC r, zW r, zG r, zP r, zS r, zH r, zR r, zO r, zD r, zL r) 2 rfl (by decide)) (cwV 2 hB (BIG_V bw_394 bw_395 bw_10 bw_18 bw_396) rfl rfl rfl ⟨rfl, by decide, by decide, by decide +kernel⟩ ⟨Nat.le_of_ble_eq_true rfl, Nat.le_of_ble_eq_true rfl⟩) (mPc_pre _ hP hK hD) rfl rfl hl.1 rfl (lv_room (Nat.le_of_ble_eq_true rfl)) d_M_leave_41 ⟨Nat.zero_le _, Nat.zero_le _⟩) hS (fun q _ h => hFc q h) hFc (fun r7 u t H1 locs ht hvm hw hB1 hz1 hk1 hS => ?_)
      obtain ⟨hw1, hw2⟩ := hw
      subst hw1
      subst hw2
      have hP : va_P (dC, dI) vwC (mW k a (zErr (0, zC r, zW r, zG r, zP r, zS r, zH r, zR r, zO r, zD r, zL r) 2)) H1 := by rw [← ht]; exact hB1
      have hD : va_D A (mW k a (zErr (0, zC r, zW r, zG r, zP r, zS r, zH r, zR r, zO r, zD r, zL r) 2)) := mW_D hDk
      clear hFc hB1 hk1 hz1 ht hvm
      generalize H1 = H at hP hS ⊢
      have hP : va_P (dC, dI) vwC (mW k a (2, zC r, zW r, zG r, zP r, zS r, zH r, zR r, zO r, zD r, zL r)) H := hP
      have hD : va_D A (mW k a (2, zC r, zW r, zG r, zP r, zS r, zH r, zR r, zO r, zD r, zL r)) := hD
      refine lv_if_eq hx hb d_M_leave_44 rfl (fun h9 => absurd h9 (by decide)) (fun _ => ?_)
      exact W.vret hx hb hr (fun t ht hW => ⟨⟨(2, zC r, zW r, zG r, zP r, zS r, zH r, zR r, zO r, zD r, zL r), rfl, by unfold zLeave; rw [hq]; dsimp only; rw [if_pos ho]; first | done | rfl, by show va_P (dC, dI) vwC _ t.heap; rw [ht]; exact hP⟩, hS.F ht⟩) hS.2.2 d_M_leave_47
    | true =>
      refine lv_aload_n hx hb d_M_leave_0 rfl (lv_at hl 0 rfl) ?_
      refine lv_iconst (v := 0) hx hb d_M_leave_1 (by decide) ?_
      refine va_put (D := (dC, dI)) (ci := 2) (v := .int 0) (ty := .int) (C := R_M) (T := F_M) (N := 11) hx hb hB in_M tf_M ty_M nm_M hown hK hP hD hS 0 rfl rfl 0 (by decide) (hB _ bw_355) (fun _ h9 => h9) rfl (by decide +kernel) rfl rfl (Nat.le_of_ble_eq_true rfl) d_M_leave_2 (fun H locs hP hD hS => ?_)
      have hP : va_P (dC, dI) vwC (mW k a (0, zC r, zW r, zG r, zP r, zS r, zH r, zR r, zO r, zD r, zL r)) H := hP
      have hD : va_D A (mW k a (0, zC r, zW r, zG r, zP r, zS r, zH r, zR r, zO r, zD r, zL r)) := hD
      refine lv_aload_n hx hb d_M_leave_5 rfl (lv_at hl 0 rfl) ?_
      refine lv_iload_n hx hb d_M_leave_6 rfl (lv_at hl 1 rfl) ?_
      refine vp_callSi (va_Run.run (va_runS (As := [.int (nI j)]) (rest := [.ref (a 0)]) ⟨hx, hb, hml, hown, hB⟩ (m_M_isOne l (nI j)) (va_cwS 1 hB (BIG_SS bw_387 bw_388 bw_18 bw_389) rfl rfl rfl ⟨by decide, by decide, by decide +kernel⟩ ⟨Nat.le_of_ble_eq_true rfl, Nat.le_of_ble_eq_true rfl⟩) preEq rfl rfl hl.1 rfl (lv_room (Nat.le_of_ble_eq_true rfl)) d_M_leave_7 ⟨Nat.zero_le _, Nat.zero_le _⟩)) (fun r7 hr7 => ?_)
      refine W.eq (g2 := F0 m 10 ls [.int (bI true), .ref (a 0)]) (by rw [hr7, hq]; rfl) ?_
      refine lv_if_ne hx hb d_M_leave_10 rfl (fun _ => ?_) (fun h9 => absurd h9 (by decide))
      refine lv_iconst (v := bI false) hx hb d_M_leave_17 (by decide) ?_
      refine lv_iconst (v := 1) hx hb d_M_leave_18 (by decide) ?_
      have hFc := va_free (wc := mW k a (0, zC r, zW r, zG r, zP r, zS r, zH r, zR r, zO r, zD r, zL r)) hD hS hA [0, 1, 2, 3, 4, 5, 6, 7, 8] rfl
      refine va_calli (va_runV (As := [.int (bI false), .int 1]) (rest := []) ⟨hx, hb, hml, hown, hB⟩ (m_M_fails_f l dC dI k a _ (0, zC r, zW r, zG r, zP r, zS r, zH r, zR r, zO r, zD r, zL r) 1 rfl) (cwV 2 hB (BIG_V bw_394 bw_395 bw_10 bw_18 bw_396) rfl rfl rfl ⟨rfl, by decide, by decide, by decide +kernel⟩ ⟨Nat.le_of_ble_eq_true rfl, Nat.le_of_ble_eq_true rfl⟩) (mPc_pre _ hP hK hD) rfl rfl hl.1 rfl (lv_room (Nat.le_of_ble_eq_true rfl)) d_M_leave_19 ⟨Nat.zero_le _, Nat.zero_le _⟩) hS (fun q _ h => hFc q h) hFc (fun r7 u t H1 locs ht hvm hw hB1 hz1 hk1 hS => ?_)
      obtain ⟨hw1, hw2⟩ := hw
      subst hw1
      subst hw2
      have hP : va_P (dC, dI) vwC (mW k a (0, zC r, zW r, zG r, zP r, zS r, zH r, zR r, zO r, zD r, zL r)) H1 := by rw [← ht]; exact hB1
      have hD : va_D A (mW k a (0, zC r, zW r, zG r, zP r, zS r, zH r, zR r, zO r, zD r, zL r)) := mW_D hDk
      clear hFc hB1 hk1 hz1 ht hvm
      generalize H1 = H at hP hS ⊢
      refine lv_if_ne hx hb d_M_leave_22 rfl (fun h9 => absurd h9 (by decide)) (fun _ => ?_)
      refine lv_aload_n hx hb d_M_leave_25 rfl (lv_at hl 0 rfl) ?_
      refine lv_aload_n hx hb d_M_leave_26 rfl (lv_at hl 0 rfl) ?_
      refine va_get (D := (dC, dI)) (ci := 2) (v := .ref (a 8)) (C := R_M) (T := F_M) (N := 11) hx hb hB in_M hown hK hP 0 rfl rfl 8 (by decide) (hB _ bw_363) (fun _ h9 => h9) rfl d_M_leave_27 ?_
      refine lv_iload_n hx hb d_M_leave_30 rfl (lv_at hl 1 rfl) ?_
      refine va_zald hx hb hK hP 8 4 rfl rfl (pk_in j 8 (by omega)) d_M_leave_31 ?_
      refine W.eq (g2 := F0 m 32 ls [.int (bI (zO r j)), .ref (a 0)]) (by rw [cl_nI (by omega)]) ?_
      refine W.eq (g2 := F0 m 32 ls [.int (bI true), .ref (a 0)]) (by rw [ho]) ?_
      refine lv_if_ne hx hb d_M_leave_32 rfl (fun _ => ?_) (fun h9 => absurd h9 (by decide))
      refine lv_iconst (v := bI false) hx hb d_M_leave_39 (by decide) ?_
      refine lv_iconst (v := 2) hx hb d_M_leave_40 (by decide) ?_
      have hFc := va_free (wc := mW k a (0, zC r, zW r, zG r, zP r, zS r, zH r, zR r, zO r, zD r, zL r)) hD hS hA [0, 1, 2, 3, 4, 5, 6, 7, 8] rfl
      refine va_calli (va_runV (As := [.int (bI false), .int 2]) (rest := []) ⟨hx, hb, hml, hown, hB⟩ (m_M_fails_f l dC dI k a _ (0, zC r, zW r, zG r, zP r, zS r, zH r, zR r, zO r, zD r, zL r) 2 rfl) (cwV 2 hB (BIG_V bw_394 bw_395 bw_10 bw_18 bw_396) rfl rfl rfl ⟨rfl, by decide, by decide, by decide +kernel⟩ ⟨Nat.le_of_ble_eq_true rfl, Nat.le_of_ble_eq_true rfl⟩) (mPc_pre _ hP hK hD) rfl rfl hl.1 rfl (lv_room (Nat.le_of_ble_eq_true rfl)) d_M_leave_41 ⟨Nat.zero_le _, Nat.zero_le _⟩) hS (fun q _ h => hFc q h) hFc (fun r7 u t H1 locs ht hvm hw hB1 hz1 hk1 hS => ?_)
      obtain ⟨hw1, hw2⟩ := hw
      subst hw1
      subst hw2
      have hP : va_P (dC, dI) vwC (mW k a (0, zC r, zW r, zG r, zP r, zS r, zH r, zR r, zO r, zD r, zL r)) H1 := by rw [← ht]; exact hB1
      have hD : va_D A (mW k a (0, zC r, zW r, zG r, zP r, zS r, zH r, zR r, zO r, zD r, zL r)) := mW_D hDk
      clear hFc hB1 hk1 hz1 ht hvm
      generalize H1 = H at hP hS ⊢
      refine lv_if_eq hx hb d_M_leave_44 rfl (fun _ => ?_) (fun h9 => absurd (by decide) h9)
      refine lv_aload_n hx hb d_M_leave_48 rfl (lv_at hl 0 rfl) ?_
      refine va_get (D := (dC, dI)) (ci := 2) (v := .ref (a 8)) (C := R_M) (T := F_M) (N := 11) hx hb hB in_M hown hK hP 0 rfl rfl 8 (by decide) (hB _ bw_363) (fun _ h9 => h9) rfl d_M_leave_49 ?_
      refine lv_iload_n hx hb d_M_leave_52 rfl (lv_at hl 1 rfl) ?_
      refine lv_iconst (v := bI false) hx hb d_M_leave_53 (by decide) ?_
      refine va_zast hx hb hK hP hD hS 8 4 rfl rfl (pk_in j 8 (by omega)) d_M_leave_54 (fun H locs hP hD hS => ?_)
      rw [cl_nI (by omega), bI_upd] at hP
      have hP : va_P (dC, dI) vwC (mW k a (0, zC r, zW r, zG r, zP r, zS r, zH r, zR r, va_up (zO r) j false, zD r, zL r)) H := hP
      have hD : va_D A (mW k a (0, zC r, zW r, zG r, zP r, zS r, zH r, zR r, va_up (zO r) j false, zD r, zL r)) := mW_D hDk
      exact W.vret hx hb hr (fun t ht hW => ⟨⟨(0, zC r, zW r, zG r, zP r, zS r, zH r, zR r, va_up (zO r) j false, zD r, zL r), rfl, by unfold zLeave; rw [hq]; dsimp only; rw [if_neg (by rw [ho]; decide)]; first | done | rfl, by show va_P (dC, dI) vwC _ t.heap; rw [ht]; exact hP⟩, hS.F ht⟩) hS.2.2 d_M_leave_55
set_option maxHeartbeats 4000000 in
set_option maxRecDepth 100000 in
theorem m_M_set (l : Launch) (dC : Nat → ClassId) (dI : Nat → Nat → Nat) (k : Nat → ClassId) (a : Nat → Nat) (sz : Nat) (r : xRS) (kk : Int32) (x : Int64) : Met l y_M_set w_M_set (rmx 2 0 0 80) (mPc dC dI k a sz r [.ref (a 0), .int kk, .long x]) (va_Qv (fun u => u = zPut r kk x) (mB dC dI k a) (va_A (mW k a r) sz)) 0 0 (va_A (mW k a r) sz) := by
  refine Met.ofW (cc := c_M_set) (maxL := 4) (ret := none) (by decide) rfl ?_
  intro p e s m args below meth c s₁ B hml hv
  obtain ⟨rfl, hsz, hP, hK, hD0⟩ := hv
  have hx := B.exec
  have hb := B.bytes
  have hr := B.returns
  have hts := atoms_spec (ws := w_M_set) B.pre
  have hB : ∀ w ∈ BIG, w.before _ s = true := fun w h => hts w (List.mem_cons_of_mem _ h)
  have hown : s.vm.findClass R_M = some m.cls := findClass_of_methodNamed B.named
  have hlocks := B.notSynchronized
  have hl := lv_entry ([.ref (a 0), .int kk, .long x]) (n := 4) (Nat.le_of_ble_eq_true rfl)
  rw [lg_entry_eq]
  generalize (lg_sl ([.ref (a 0), .int kk, .long x]) ++ List.replicate (4 - (lg_sl ([.ref (a 0), .int kk, .long x])).length) Slot.unset).toArray = ls at hl ⊢
  have hl : lv_has ls 4 [(0, .ref (a 0)), (1, .int kk), (2, .long x)] := hl
  subst hsz
  have hD := hD0.self (sz := s.heap.size)
  generalize hAe : va_A (mW k a r) s.heap.size = A at hD ⊢
  have hA : ∀ q : Nat, s.heap.size ≤ q → A q := fun q h => by rw [← hAe]; exact Or.inr h
  have hS : va_S A s.heap s.heap [] := va_S.rf
  have hDk := hD
  cases hq : ix 32 kk with
  | none =>
    refine lv_aload_n hx hb d_M_set_0 rfl (lv_at hl 0 rfl) ?_
    refine lv_iconst (v := 0) hx hb d_M_set_1 (by decide) ?_
    refine va_put (D := (dC, dI)) (ci := 2) (v := .int 0) (ty := .int) (C := R_M) (T := F_M) (N := 11) hx hb hB in_M tf_M ty_M nm_M hown hK hP hD hS 0 rfl rfl 0 (by decide) (hB _ bw_355) (fun _ h9 => h9) rfl (by decide +kernel) rfl rfl (Nat.le_of_ble_eq_true rfl) d_M_set_2 (fun H locs hP hD hS => ?_)
    have hP : va_P (dC, dI) vwC (mW k a (0, zC r, zW r, zG r, zP r, zS r, zH r, zR r, zO r, zD r, zL r)) H := hP
    have hD : va_D A (mW k a (0, zC r, zW r, zG r, zP r, zS r, zH r, zR r, zO r, zD r, zL r)) := hD
    refine lv_aload_n hx hb d_M_set_5 rfl (lv_at hl 0 rfl) ?_
    refine lv_iload_n hx hb d_M_set_6 rfl (lv_at hl 1 rfl) ?_
    refine vp_callSi (va_Run.run (va_runS (As := [.int kk]) (rest := [.ref (a 0)]) ⟨hx, hb, hml, hown, hB⟩ (m_M_isCell l kk) (va_cwS 1 hB (BIG_SS bw_404 bw_405 bw_18 bw_406) rfl rfl rfl ⟨by decide, by decide, by decide +kernel⟩ ⟨Nat.le_of_ble_eq_true rfl, Nat.le_of_ble_eq_true rfl⟩) preEq rfl rfl hl.1 rfl (lv_room (Nat.le_of_ble_eq_true rfl)) d_M_set_7 ⟨Nat.zero_le _, Nat.zero_le _⟩)) (fun r7 hr7 => ?_)
    refine W.eq (g2 := F0 m 10 ls [.int (bI false), .ref (a 0)]) (by rw [hr7, hq]; rfl) ?_
    refine lv_if_ne hx hb d_M_set_10 rfl (fun h9 => absurd h9 (by decide)) (fun _ => ?_)
    refine lv_iconst (v := bI true) hx hb d_M_set_13 (by decide) ?_
    refine lv_goto hx hb d_M_set_14 rfl ?_
    refine lv_iconst (v := 1) hx hb d_M_set_18 (by decide) ?_
    have hFc := va_free (wc := mW k a (0, zC r, zW r, zG r, zP r, zS r, zH r, zR r, zO r, zD r, zL r)) hD hS hA [0, 1, 2, 3, 4, 5, 6, 7, 8] rfl
    refine va_calli (va_runV (As := [.int (bI true), .int 1]) (rest := []) ⟨hx, hb, hml, hown, hB⟩ (m_M_fails_t l dC dI k a _ (0, zC r, zW r, zG r, zP r, zS r, zH r, zR r, zO r, zD r, zL r) 1 rfl (by decide)) (cwV 2 hB (BIG_V bw_394 bw_395 bw_10 bw_18 bw_396) rfl rfl rfl ⟨rfl, by decide, by decide, by decide +kernel⟩ ⟨Nat.le_of_ble_eq_true rfl, Nat.le_of_ble_eq_true rfl⟩) (mPc_pre _ hP hK hD) rfl rfl hl.1 rfl (lv_room (Nat.le_of_ble_eq_true rfl)) d_M_set_19 ⟨Nat.zero_le _, Nat.zero_le _⟩) hS (fun q _ h => hFc q h) hFc (fun r7 u t H1 locs ht hvm hw hB1 hz1 hk1 hS => ?_)
    obtain ⟨hw1, hw2⟩ := hw
    subst hw1
    subst hw2
    have hP : va_P (dC, dI) vwC (mW k a (zErr (0, zC r, zW r, zG r, zP r, zS r, zH r, zR r, zO r, zD r, zL r) 1)) H1 := by rw [← ht]; exact hB1
    have hD : va_D A (mW k a (zErr (0, zC r, zW r, zG r, zP r, zS r, zH r, zR r, zO r, zD r, zL r) 1)) := mW_D hDk
    clear hFc hB1 hk1 hz1 ht hvm
    generalize H1 = H at hP hS ⊢
    have hP : va_P (dC, dI) vwC (mW k a (1, zC r, zW r, zG r, zP r, zS r, zH r, zR r, zO r, zD r, zL r)) H := hP
    have hD : va_D A (mW k a (1, zC r, zW r, zG r, zP r, zS r, zH r, zR r, zO r, zD r, zL r)) := hD
    refine lv_if_eq hx hb d_M_set_22 rfl (fun h9 => absurd h9 (by decide)) (fun _ => ?_)
    exact W.vret hx hb hr (fun t ht hW => ⟨⟨(1, zC r, zW r, zG r, zP r, zS r, zH r, zR r, zO r, zD r, zL r), rfl, by unfold zPut; rw [hq]; first | done | rfl, by show va_P (dC, dI) vwC _ t.heap; rw [ht]; exact hP⟩, hS.F ht⟩) hS.2.2 d_M_set_25
  | some i =>
    obtain ⟨hi, hti⟩ := ix_some (by decide) hq
    subst hti
    refine lv_aload_n hx hb d_M_set_0 rfl (lv_at hl 0 rfl) ?_
    refine lv_iconst (v := 0) hx hb d_M_set_1 (by decide) ?_
    refine va_put (D := (dC, dI)) (ci := 2) (v := .int 0) (ty := .int) (C := R_M) (T := F_M) (N := 11) hx hb hB in_M tf_M ty_M nm_M hown hK hP hD hS 0 rfl rfl 0 (by decide) (hB _ bw_355) (fun _ h9 => h9) rfl (by decide +kernel) rfl rfl (Nat.le_of_ble_eq_true rfl) d_M_set_2 (fun H locs hP hD hS => ?_)
    have hP : va_P (dC, dI) vwC (mW k a (0, zC r, zW r, zG r, zP r, zS r, zH r, zR r, zO r, zD r, zL r)) H := hP
    have hD : va_D A (mW k a (0, zC r, zW r, zG r, zP r, zS r, zH r, zR r, zO r, zD r, zL r)) := hD
    refine lv_aload_n hx hb d_M_set_5 rfl (lv_at hl 0 rfl) ?_
    refine lv_iload_n hx hb d_M_set_6 rfl (lv_at hl 1 rfl) ?_
    refine vp_callSi (va_Run.run (va_runS (As := [.int (nI i)]) (rest := [.ref (a 0)]) ⟨hx, hb, hml, hown, hB⟩ (m_M_isCell l (nI i)) (va_cwS 1 hB (BIG_SS bw_404 bw_405 bw_18 bw_406) rfl rfl rfl ⟨by decide, by decide, by decide +kernel⟩ ⟨Nat.le_of_ble_eq_true rfl, Nat.le_of_ble_eq_true rfl⟩) preEq rfl rfl hl.1 rfl (lv_room (Nat.le_of_ble_eq_true rfl)) d_M_set_7 ⟨Nat.zero_le _, Nat.zero_le _⟩)) (fun r7 hr7 => ?_)
    refine W.eq (g2 := F0 m 10 ls [.int (bI true), .ref (a 0)]) (by rw [hr7, hq]; rfl) ?_
    refine lv_if_ne hx hb d_M_set_10 rfl (fun _ => ?_) (fun h9 => absurd h9 (by decide))
    refine lv_iconst (v := bI false) hx hb d_M_set_17 (by decide) ?_
    refine lv_iconst (v := 1) hx hb d_M_set_18 (by decide) ?_
    have hFc := va_free (wc := mW k a (0, zC r, zW r, zG r, zP r, zS r, zH r, zR r, zO r, zD r, zL r)) hD hS hA [0, 1, 2, 3, 4, 5, 6, 7, 8] rfl
    refine va_calli (va_runV (As := [.int (bI false), .int 1]) (rest := []) ⟨hx, hb, hml, hown, hB⟩ (m_M_fails_f l dC dI k a _ (0, zC r, zW r, zG r, zP r, zS r, zH r, zR r, zO r, zD r, zL r) 1 rfl) (cwV 2 hB (BIG_V bw_394 bw_395 bw_10 bw_18 bw_396) rfl rfl rfl ⟨rfl, by decide, by decide, by decide +kernel⟩ ⟨Nat.le_of_ble_eq_true rfl, Nat.le_of_ble_eq_true rfl⟩) (mPc_pre _ hP hK hD) rfl rfl hl.1 rfl (lv_room (Nat.le_of_ble_eq_true rfl)) d_M_set_19 ⟨Nat.zero_le _, Nat.zero_le _⟩) hS (fun q _ h => hFc q h) hFc (fun r7 u t H1 locs ht hvm hw hB1 hz1 hk1 hS => ?_)
    obtain ⟨hw1, hw2⟩ := hw
    subst hw1
    subst hw2
    have hP : va_P (dC, dI) vwC (mW k a (0, zC r, zW r, zG r, zP r, zS r, zH r, zR r, zO r, zD r, zL r)) H1 := by rw [← ht]; exact hB1
    have hD : va_D A (mW k a (0, zC r, zW r, zG r, zP r, zS r, zH r, zR r, zO r, zD r, zL r)) := mW_D hDk
    clear hFc hB1 hk1 hz1 ht hvm
    generalize H1 = H at hP hS ⊢
    refine lv_if_eq hx hb d_M_set_22 rfl (fun _ => ?_) (fun h9 => absurd (by decide) h9)
    refine lv_aload_n hx hb d_M_set_26 rfl (lv_at hl 0 rfl) ?_
    refine lv_iload_n hx hb d_M_set_27 rfl (lv_at hl 1 rfl) ?_
    refine lv_lload_n hx hb d_M_set_28 rfl (lv_at hl 2 rfl) ?_
    have hFc := va_free (wc := mW k a (0, zC r, zW r, zG r, zP r, zS r, zH r, zR r, zO r, zD r, zL r)) hD hS hA [0, 1, 2, 3, 4, 5, 6, 7, 8] rfl
    refine va_callv (va_runV (As := [.int (nI i), .long x]) (rest := []) ⟨hx, hb, hml, hown, hB⟩ (m_M_change l dC dI k a _ (0, zC r, zW r, zG r, zP r, zS r, zH r, zR r, zO r, zD r, zL r) i x hi) (cwV 2 hB (BIG_V bw_434 bw_435 bw_14 bw_18 bw_436) rfl rfl rfl ⟨rfl, by decide, by decide, by decide +kernel⟩ ⟨Nat.le_of_ble_eq_true rfl, Nat.le_of_ble_eq_true rfl⟩) (mPc_pre _ hP hK hD) rfl rfl hl.1 rfl (lv_room (Nat.le_of_ble_eq_true rfl)) d_M_set_29 ⟨Nat.zero_le _, Nat.zero_le _⟩) hS (fun q _ h => hFc q h) hFc (fun u t H1 locs ht hvm hw hB1 hz1 hk1 hS => ?_)
    subst hw
    have hP : va_P (dC, dI) vwC (mW k a (zChg (0, zC r, zW r, zG r, zP r, zS r, zH r, zR r, zO r, zD r, zL r) i x)) H1 := by rw [← ht]; exact hB1
    have hD : va_D A (mW k a (zChg (0, zC r, zW r, zG r, zP r, zS r, zH r, zR r, zO r, zD r, zL r) i x)) := mW_D hDk
    clear hFc hB1 hk1 hz1 ht hvm
    generalize H1 = H at hP hS ⊢
    exact W.vret hx hb hr (fun t ht hW => ⟨⟨(0, vp_updL (zC r) i x, zW r, upd (zG r) i (zG r i + 1), zP r, zS r, zH r, zR r, zO r, zD r, zL r), rfl, by unfold zPut; rw [hq]; first | done | rfl, by show va_P (dC, dI) vwC _ t.heap; rw [ht]; exact hP⟩, hS.F ht⟩) hS.2.2 d_M_set_32
set_option maxHeartbeats 4000000 in
set_option maxRecDepth 100000 in
theorem m_M_cell (l : Launch) (dC : Nat → ClassId) (dI : Nat → Nat → Nat) (k : Nat → ClassId) (a : Nat → Nat) (sz : Nat) (r : xRS) (kk : Int32) : Met l y_M_cell w_M_cell (rmx 2 0 0 80) (mPc dC dI k a sz r [.ref (a 0), .int kk]) (va_Ql (fun o u => (o, u) = zCell r kk) (mB dC dI k a) (va_A (mW k a r) sz)) 0 0 (va_A (mW k a r) sz) := by
  refine Met.ofW (cc := c_M_cell) (maxL := 2) (ret := (some .long)) (by decide) rfl ?_
  intro p e s m args below meth c s₁ B hml hv
  obtain ⟨rfl, hsz, hP, hK, hD0⟩ := hv
  have hx := B.exec
  have hb := B.bytes
  have hr := B.returns
  have hts := atoms_spec (ws := w_M_cell) B.pre
  have hB : ∀ w ∈ BIG, w.before _ s = true := fun w h => hts w (List.mem_cons_of_mem _ h)
  have hown : s.vm.findClass R_M = some m.cls := findClass_of_methodNamed B.named
  have hlocks := B.notSynchronized
  have hl := lv_entry ([.ref (a 0), .int kk]) (n := 2) (Nat.le_of_ble_eq_true rfl)
  rw [lg_entry_eq]
  generalize (lg_sl ([.ref (a 0), .int kk]) ++ List.replicate (2 - (lg_sl ([.ref (a 0), .int kk])).length) Slot.unset).toArray = ls at hl ⊢
  have hl : lv_has ls 2 [(0, .ref (a 0)), (1, .int kk)] := hl
  subst hsz
  have hD := hD0.self (sz := s.heap.size)
  generalize hAe : va_A (mW k a r) s.heap.size = A at hD ⊢
  have hA : ∀ q : Nat, s.heap.size ≤ q → A q := fun q h => by rw [← hAe]; exact Or.inr h
  have hS : va_S A s.heap s.heap [] := va_S.rf
  have hDk := hD
  cases hq : ix 32 kk with
  | none =>
    refine lv_aload_n hx hb d_M_cell_0 rfl (lv_at hl 0 rfl) ?_
    refine lv_iconst (v := 0) hx hb d_M_cell_1 (by decide) ?_
    refine va_put (D := (dC, dI)) (ci := 2) (v := .int 0) (ty := .int) (C := R_M) (T := F_M) (N := 11) hx hb hB in_M tf_M ty_M nm_M hown hK hP hD hS 0 rfl rfl 0 (by decide) (hB _ bw_355) (fun _ h9 => h9) rfl (by decide +kernel) rfl rfl (Nat.le_of_ble_eq_true rfl) d_M_cell_2 (fun H locs hP hD hS => ?_)
    have hP : va_P (dC, dI) vwC (mW k a (0, zC r, zW r, zG r, zP r, zS r, zH r, zR r, zO r, zD r, zL r)) H := hP
    have hD : va_D A (mW k a (0, zC r, zW r, zG r, zP r, zS r, zH r, zR r, zO r, zD r, zL r)) := hD
    refine lv_aload_n hx hb d_M_cell_5 rfl (lv_at hl 0 rfl) ?_
    refine lv_iload_n hx hb d_M_cell_6 rfl (lv_at hl 1 rfl) ?_
    refine vp_callSi (va_Run.run (va_runS (As := [.int kk]) (rest := [.ref (a 0)]) ⟨hx, hb, hml, hown, hB⟩ (m_M_isCell l kk) (va_cwS 1 hB (BIG_SS bw_404 bw_405 bw_18 bw_406) rfl rfl rfl ⟨by decide, by decide, by decide +kernel⟩ ⟨Nat.le_of_ble_eq_true rfl, Nat.le_of_ble_eq_true rfl⟩) preEq rfl rfl hl.1 rfl (lv_room (Nat.le_of_ble_eq_true rfl)) d_M_cell_7 ⟨Nat.zero_le _, Nat.zero_le _⟩)) (fun r7 hr7 => ?_)
    refine W.eq (g2 := F0 m 10 ls [.int (bI false), .ref (a 0)]) (by rw [hr7, hq]; rfl) ?_
    refine lv_if_ne hx hb d_M_cell_10 rfl (fun h9 => absurd h9 (by decide)) (fun _ => ?_)
    refine lv_iconst (v := bI true) hx hb d_M_cell_13 (by decide) ?_
    refine lv_goto hx hb d_M_cell_14 rfl ?_
    refine lv_iconst (v := 1) hx hb d_M_cell_18 (by decide) ?_
    have hFc := va_free (wc := mW k a (0, zC r, zW r, zG r, zP r, zS r, zH r, zR r, zO r, zD r, zL r)) hD hS hA [0, 1, 2, 3, 4, 5, 6, 7, 8] rfl
    refine va_calli (va_runV (As := [.int (bI true), .int 1]) (rest := []) ⟨hx, hb, hml, hown, hB⟩ (m_M_fails_t l dC dI k a _ (0, zC r, zW r, zG r, zP r, zS r, zH r, zR r, zO r, zD r, zL r) 1 rfl (by decide)) (cwV 2 hB (BIG_V bw_394 bw_395 bw_10 bw_18 bw_396) rfl rfl rfl ⟨rfl, by decide, by decide, by decide +kernel⟩ ⟨Nat.le_of_ble_eq_true rfl, Nat.le_of_ble_eq_true rfl⟩) (mPc_pre _ hP hK hD) rfl rfl hl.1 rfl (lv_room (Nat.le_of_ble_eq_true rfl)) d_M_cell_19 ⟨Nat.zero_le _, Nat.zero_le _⟩) hS (fun q _ h => hFc q h) hFc (fun r7 u t H1 locs ht hvm hw hB1 hz1 hk1 hS => ?_)
    obtain ⟨hw1, hw2⟩ := hw
    subst hw1
    subst hw2
    have hP : va_P (dC, dI) vwC (mW k a (zErr (0, zC r, zW r, zG r, zP r, zS r, zH r, zR r, zO r, zD r, zL r) 1)) H1 := by rw [← ht]; exact hB1
    have hD : va_D A (mW k a (zErr (0, zC r, zW r, zG r, zP r, zS r, zH r, zR r, zO r, zD r, zL r) 1)) := mW_D hDk
    clear hFc hB1 hk1 hz1 ht hvm
    generalize H1 = H at hP hS ⊢
    have hP : va_P (dC, dI) vwC (mW k a (1, zC r, zW r, zG r, zP r, zS r, zH r, zR r, zO r, zD r, zL r)) H := hP
    have hD : va_D A (mW k a (1, zC r, zW r, zG r, zP r, zS r, zH r, zR r, zO r, zD r, zL r)) := hD
    refine lv_if_eq hx hb d_M_cell_22 rfl (fun h9 => absurd h9 (by decide)) (fun _ => ?_)
    refine lv_lconst (v := 0) hx hb d_M_cell_25 (by decide) ?_
    refine lv_goto hx hb d_M_cell_26 rfl ?_
    exact W.lret (v := 0) hx hb hr (fun t ht hW => ⟨⟨0, (1, zC r, zW r, zG r, zP r, zS r, zH r, zR r, zO r, zD r, zL r), rfl, by unfold zCell; rw [hq]; first | done | rfl, by show va_P (dC, dI) vwC _ t.heap; rw [ht]; exact hP⟩, hS.F ht⟩) hS.2.2 d_M_cell_35
  | some i =>
    obtain ⟨hi, hti⟩ := ix_some (by decide) hq
    subst hti
    refine lv_aload_n hx hb d_M_cell_0 rfl (lv_at hl 0 rfl) ?_
    refine lv_iconst (v := 0) hx hb d_M_cell_1 (by decide) ?_
    refine va_put (D := (dC, dI)) (ci := 2) (v := .int 0) (ty := .int) (C := R_M) (T := F_M) (N := 11) hx hb hB in_M tf_M ty_M nm_M hown hK hP hD hS 0 rfl rfl 0 (by decide) (hB _ bw_355) (fun _ h9 => h9) rfl (by decide +kernel) rfl rfl (Nat.le_of_ble_eq_true rfl) d_M_cell_2 (fun H locs hP hD hS => ?_)
    have hP : va_P (dC, dI) vwC (mW k a (0, zC r, zW r, zG r, zP r, zS r, zH r, zR r, zO r, zD r, zL r)) H := hP
    have hD : va_D A (mW k a (0, zC r, zW r, zG r, zP r, zS r, zH r, zR r, zO r, zD r, zL r)) := hD
    refine lv_aload_n hx hb d_M_cell_5 rfl (lv_at hl 0 rfl) ?_
    refine lv_iload_n hx hb d_M_cell_6 rfl (lv_at hl 1 rfl) ?_
    refine vp_callSi (va_Run.run (va_runS (As := [.int (nI i)]) (rest := [.ref (a 0)]) ⟨hx, hb, hml, hown, hB⟩ (m_M_isCell l (nI i)) (va_cwS 1 hB (BIG_SS bw_404 bw_405 bw_18 bw_406) rfl rfl rfl ⟨by decide, by decide, by decide +kernel⟩ ⟨Nat.le_of_ble_eq_true rfl, Nat.le_of_ble_eq_true rfl⟩) preEq rfl rfl hl.1 rfl (lv_room (Nat.le_of_ble_eq_true rfl)) d_M_cell_7 ⟨Nat.zero_le _, Nat.zero_le _⟩)) (fun r7 hr7 => ?_)
    refine W.eq (g2 := F0 m 10 ls [.int (bI true), .ref (a 0)]) (by rw [hr7, hq]; rfl) ?_
    refine lv_if_ne hx hb d_M_cell_10 rfl (fun _ => ?_) (fun h9 => absurd h9 (by decide))
    refine lv_iconst (v := bI false) hx hb d_M_cell_17 (by decide) ?_
    refine lv_iconst (v := 1) hx hb d_M_cell_18 (by decide) ?_
    have hFc := va_free (wc := mW k a (0, zC r, zW r, zG r, zP r, zS r, zH r, zR r, zO r, zD r, zL r)) hD hS hA [0, 1, 2, 3, 4, 5, 6, 7, 8] rfl
    refine va_calli (va_runV (As := [.int (bI false), .int 1]) (rest := []) ⟨hx, hb, hml, hown, hB⟩ (m_M_fails_f l dC dI k a _ (0, zC r, zW r, zG r, zP r, zS r, zH r, zR r, zO r, zD r, zL r) 1 rfl) (cwV 2 hB (BIG_V bw_394 bw_395 bw_10 bw_18 bw_396) rfl rfl rfl ⟨rfl, by decide, by decide, by decide +kernel⟩ ⟨Nat.le_of_ble_eq_true rfl, Nat.le_of_ble_eq_true rfl⟩) (mPc_pre _ hP hK hD) rfl rfl hl.1 rfl (lv_room (Nat.le_of_ble_eq_true rfl)) d_M_cell_19 ⟨Nat.zero_le _, Nat.zero_le _⟩) hS (fun q _ h => hFc q h) hFc (fun r7 u t H1 locs ht hvm hw hB1 hz1 hk1 hS => ?_)
    obtain ⟨hw1, hw2⟩ := hw
    subst hw1
    subst hw2
    have hP : va_P (dC, dI) vwC (mW k a (0, zC r, zW r, zG r, zP r, zS r, zH r, zR r, zO r, zD r, zL r)) H1 := by rw [← ht]; exact hB1
    have hD : va_D A (mW k a (0, zC r, zW r, zG r, zP r, zS r, zH r, zR r, zO r, zD r, zL r)) := mW_D hDk
    clear hFc hB1 hk1 hz1 ht hvm
    generalize H1 = H at hP hS ⊢
    refine lv_if_eq hx hb d_M_cell_22 rfl (fun _ => ?_) (fun h9 => absurd (by decide) h9)
    refine lv_aload_n hx hb d_M_cell_29 rfl (lv_at hl 0 rfl) ?_
    refine va_get (D := (dC, dI)) (ci := 2) (v := .ref (a 1)) (C := R_M) (T := F_M) (N := 11) hx hb hB in_M hown hK hP 0 rfl rfl 1 (by decide) (hB _ bw_356) (fun _ h9 => h9) rfl d_M_cell_30 ?_
    refine lv_iload_n hx hb d_M_cell_33 rfl (lv_at hl 1 rfl) ?_
    refine va_lald hx hb hK hP 1 1 rfl rfl (pk_in i 32 (by omega)) d_M_cell_34 ?_
    refine W.eq (g2 := F0 m 35 ls [.long (zC r i)]) (by rw [cl_nI (by omega)]) ?_
    exact W.lret (v := zC r i) hx hb hr (fun t ht hW => ⟨⟨zC r i, (0, zC r, zW r, zG r, zP r, zS r, zH r, zR r, zO r, zD r, zL r), rfl, by unfold zCell; rw [hq]; first | done | rfl, by show va_P (dC, dI) vwC _ t.heap; rw [ht]; exact hP⟩, hS.F ht⟩) hS.2.2 d_M_cell_35
set_option maxHeartbeats 4000000 in
set_option maxRecDepth 100000 in
theorem m_M_changed (l : Launch) (dC : Nat → ClassId) (dI : Nat → Nat → Nat) (k : Nat → ClassId) (a : Nat → Nat) (sz : Nat) (r : xRS) (kk : Int32) : Met l y_M_changed w_M_changed (rmx 2 0 0 80) (mPc dC dI k a sz r [.ref (a 0), .int kk]) (va_Qi (fun o u => (o, u) = zChd r kk) (mB dC dI k a) (va_A (mW k a r) sz)) 0 0 (va_A (mW k a r) sz) := by
  refine Met.ofW (cc := c_M_changed) (maxL := 2) (ret := (some .int)) (by decide) rfl ?_
  intro p e s m args below meth c s₁ B hml hv
  obtain ⟨rfl, hsz, hP, hK, hD0⟩ := hv
  have hx := B.exec
  have hb := B.bytes
  have hr := B.returns
  have hts := atoms_spec (ws := w_M_changed) B.pre
  have hB : ∀ w ∈ BIG, w.before _ s = true := fun w h => hts w (List.mem_cons_of_mem _ h)
  have hown : s.vm.findClass R_M = some m.cls := findClass_of_methodNamed B.named
  have hlocks := B.notSynchronized
  have hl := lv_entry ([.ref (a 0), .int kk]) (n := 2) (Nat.le_of_ble_eq_true rfl)
  rw [lg_entry_eq]
  generalize (lg_sl ([.ref (a 0), .int kk]) ++ List.replicate (2 - (lg_sl ([.ref (a 0), .int kk])).length) Slot.unset).toArray = ls at hl ⊢
  have hl : lv_has ls 2 [(0, .ref (a 0)), (1, .int kk)] := hl
  subst hsz
  have hD := hD0.self (sz := s.heap.size)
  generalize hAe : va_A (mW k a r) s.heap.size = A at hD ⊢
  have hA : ∀ q : Nat, s.heap.size ≤ q → A q := fun q h => by rw [← hAe]; exact Or.inr h
  have hS : va_S A s.heap s.heap [] := va_S.rf
  have hDk := hD
  cases hq : ix 32 kk with
  | none =>
    refine lv_aload_n hx hb d_M_changed_0 rfl (lv_at hl 0 rfl) ?_
    refine lv_iconst (v := 0) hx hb d_M_changed_1 (by decide) ?_
    refine va_put (D := (dC, dI)) (ci := 2) (v := .int 0) (ty := .int) (C := R_M) (T := F_M) (N := 11) hx hb hB in_M tf_M ty_M nm_M hown hK hP hD hS 0 rfl rfl 0 (by decide) (hB _ bw_355) (fun _ h9 => h9) rfl (by decide +kernel) rfl rfl (Nat.le_of_ble_eq_true rfl) d_M_changed_2 (fun H locs hP hD hS => ?_)
    have hP : va_P (dC, dI) vwC (mW k a (0, zC r, zW r, zG r, zP r, zS r, zH r, zR r, zO r, zD r, zL r)) H := hP
    have hD : va_D A (mW k a (0, zC r, zW r, zG r, zP r, zS r, zH r, zR r, zO r, zD r, zL r)) := hD
    refine lv_aload_n hx hb d_M_changed_5 rfl (lv_at hl 0 rfl) ?_
    refine lv_iload_n hx hb d_M_changed_6 rfl (lv_at hl 1 rfl) ?_
    refine vp_callSi (va_Run.run (va_runS (As := [.int kk]) (rest := [.ref (a 0)]) ⟨hx, hb, hml, hown, hB⟩ (m_M_isCell l kk) (va_cwS 1 hB (BIG_SS bw_404 bw_405 bw_18 bw_406) rfl rfl rfl ⟨by decide, by decide, by decide +kernel⟩ ⟨Nat.le_of_ble_eq_true rfl, Nat.le_of_ble_eq_true rfl⟩) preEq rfl rfl hl.1 rfl (lv_room (Nat.le_of_ble_eq_true rfl)) d_M_changed_7 ⟨Nat.zero_le _, Nat.zero_le _⟩)) (fun r7 hr7 => ?_)
    refine W.eq (g2 := F0 m 10 ls [.int (bI false), .ref (a 0)]) (by rw [hr7, hq]; rfl) ?_
    refine lv_if_ne hx hb d_M_changed_10 rfl (fun h9 => absurd h9 (by decide)) (fun _ => ?_)
    refine lv_iconst (v := bI true) hx hb d_M_changed_13 (by decide) ?_
    refine lv_goto hx hb d_M_changed_14 rfl ?_
    refine lv_iconst (v := 1) hx hb d_M_changed_18 (by decide) ?_
    have hFc := va_free (wc := mW k a (0, zC r, zW r, zG r, zP r, zS r, zH r, zR r, zO r, zD r, zL r)) hD hS hA [0, 1, 2, 3, 4, 5, 6, 7, 8] rfl
    refine va_calli (va_runV (As := [.int (bI true), .int 1]) (rest := []) ⟨hx, hb, hml, hown, hB⟩ (m_M_fails_t l dC dI k a _ (0, zC r, zW r, zG r, zP r, zS r, zH r, zR r, zO r, zD r, zL r) 1 rfl (by decide)) (cwV 2 hB (BIG_V bw_394 bw_395 bw_10 bw_18 bw_396) rfl rfl rfl ⟨rfl, by decide, by decide, by decide +kernel⟩ ⟨Nat.le_of_ble_eq_true rfl, Nat.le_of_ble_eq_true rfl⟩) (mPc_pre _ hP hK hD) rfl rfl hl.1 rfl (lv_room (Nat.le_of_ble_eq_true rfl)) d_M_changed_19 ⟨Nat.zero_le _, Nat.zero_le _⟩) hS (fun q _ h => hFc q h) hFc (fun r7 u t H1 locs ht hvm hw hB1 hz1 hk1 hS => ?_)
    obtain ⟨hw1, hw2⟩ := hw
    subst hw1
    subst hw2
    have hP : va_P (dC, dI) vwC (mW k a (zErr (0, zC r, zW r, zG r, zP r, zS r, zH r, zR r, zO r, zD r, zL r) 1)) H1 := by rw [← ht]; exact hB1
    have hD : va_D A (mW k a (zErr (0, zC r, zW r, zG r, zP r, zS r, zH r, zR r, zO r, zD r, zL r) 1)) := mW_D hDk
    clear hFc hB1 hk1 hz1 ht hvm
    generalize H1 = H at hP hS ⊢
    have hP : va_P (dC, dI) vwC (mW k a (1, zC r, zW r, zG r, zP r, zS r, zH r, zR r, zO r, zD r, zL r)) H := hP
    have hD : va_D A (mW k a (1, zC r, zW r, zG r, zP r, zS r, zH r, zR r, zO r, zD r, zL r)) := hD
    refine lv_if_eq hx hb d_M_changed_22 rfl (fun h9 => absurd h9 (by decide)) (fun _ => ?_)
    refine lv_iconst (v := 0) hx hb d_M_changed_25 (by decide) ?_
    refine lv_goto hx hb d_M_changed_26 rfl ?_
    exact W.iret (v := 0) hx hb hr (fun t ht hW => ⟨⟨0, (1, zC r, zW r, zG r, zP r, zS r, zH r, zR r, zO r, zD r, zL r), rfl, by unfold zChd; rw [hq]; first | done | rfl, by show va_P (dC, dI) vwC _ t.heap; rw [ht]; exact hP⟩, hS.F ht⟩) hS.2.2 d_M_changed_35
  | some i =>
    obtain ⟨hi, hti⟩ := ix_some (by decide) hq
    subst hti
    refine lv_aload_n hx hb d_M_changed_0 rfl (lv_at hl 0 rfl) ?_
    refine lv_iconst (v := 0) hx hb d_M_changed_1 (by decide) ?_
    refine va_put (D := (dC, dI)) (ci := 2) (v := .int 0) (ty := .int) (C := R_M) (T := F_M) (N := 11) hx hb hB in_M tf_M ty_M nm_M hown hK hP hD hS 0 rfl rfl 0 (by decide) (hB _ bw_355) (fun _ h9 => h9) rfl (by decide +kernel) rfl rfl (Nat.le_of_ble_eq_true rfl) d_M_changed_2 (fun H locs hP hD hS => ?_)
    have hP : va_P (dC, dI) vwC (mW k a (0, zC r, zW r, zG r, zP r, zS r, zH r, zR r, zO r, zD r, zL r)) H := hP
    have hD : va_D A (mW k a (0, zC r, zW r, zG r, zP r, zS r, zH r, zR r, zO r, zD r, zL r)) := hD
    refine lv_aload_n hx hb d_M_changed_5 rfl (lv_at hl 0 rfl) ?_
    refine lv_iload_n hx hb d_M_changed_6 rfl (lv_at hl 1 rfl) ?_
    refine vp_callSi (va_Run.run (va_runS (As := [.int (nI i)]) (rest := [.ref (a 0)]) ⟨hx, hb, hml, hown, hB⟩ (m_M_isCell l (nI i)) (va_cwS 1 hB (BIG_SS bw_404 bw_405 bw_18 bw_406) rfl rfl rfl ⟨by decide, by decide, by decide +kernel⟩ ⟨Nat.le_of_ble_eq_true rfl, Nat.le_of_ble_eq_true rfl⟩) preEq rfl rfl hl.1 rfl (lv_room (Nat.le_of_ble_eq_true rfl)) d_M_changed_7 ⟨Nat.zero_le _, Nat.zero_le _⟩)) (fun r7 hr7 => ?_)
    refine W.eq (g2 := F0 m 10 ls [.int (bI true), .ref (a 0)]) (by rw [hr7, hq]; rfl) ?_
    refine lv_if_ne hx hb d_M_changed_10 rfl (fun _ => ?_) (fun h9 => absurd h9 (by decide))
    refine lv_iconst (v := bI false) hx hb d_M_changed_17 (by decide) ?_
    refine lv_iconst (v := 1) hx hb d_M_changed_18 (by decide) ?_
    have hFc := va_free (wc := mW k a (0, zC r, zW r, zG r, zP r, zS r, zH r, zR r, zO r, zD r, zL r)) hD hS hA [0, 1, 2, 3, 4, 5, 6, 7, 8] rfl
    refine va_calli (va_runV (As := [.int (bI false), .int 1]) (rest := []) ⟨hx, hb, hml, hown, hB⟩ (m_M_fails_f l dC dI k a _ (0, zC r, zW r, zG r, zP r, zS r, zH r, zR r, zO r, zD r, zL r) 1 rfl) (cwV 2 hB (BIG_V bw_394 bw_395 bw_10 bw_18 bw_396) rfl rfl rfl ⟨rfl, by decide, by decide, by decide +kernel⟩ ⟨Nat.le_of_ble_eq_true rfl, Nat.le_of_ble_eq_true rfl⟩) (mPc_pre _ hP hK hD) rfl rfl hl.1 rfl (lv_room (Nat.le_of_ble_eq_true rfl)) d_M_changed_19 ⟨Nat.zero_le _, Nat.zero_le _⟩) hS (fun q _ h => hFc q h) hFc (fun r7 u t H1 locs ht hvm hw hB1 hz1 hk1 hS => ?_)
    obtain ⟨hw1, hw2⟩ := hw
    subst hw1
    subst hw2
    have hP : va_P (dC, dI) vwC (mW k a (0, zC r, zW r, zG r, zP r, zS r, zH r, zR r, zO r, zD r, zL r)) H1 := by rw [← ht]; exact hB1
    have hD : va_D A (mW k a (0, zC r, zW r, zG r, zP r, zS r, zH r, zR r, zO r, zD r, zL r)) := mW_D hDk
    clear hFc hB1 hk1 hz1 ht hvm
    generalize H1 = H at hP hS ⊢
    refine lv_if_eq hx hb d_M_changed_22 rfl (fun _ => ?_) (fun h9 => absurd (by decide) h9)
    refine lv_aload_n hx hb d_M_changed_29 rfl (lv_at hl 0 rfl) ?_
    refine va_get (D := (dC, dI)) (ci := 2) (v := .ref (a 3)) (C := R_M) (T := F_M) (N := 11) hx hb hB in_M hown hK hP 0 rfl rfl 3 (by decide) (hB _ bw_358) (fun _ h9 => h9) rfl d_M_changed_30 ?_
    refine lv_iload_n hx hb d_M_changed_33 rfl (lv_at hl 1 rfl) ?_
    refine va_iald hx hb hK hP 3 0 rfl rfl (pk_in i 32 (by omega)) d_M_changed_34 ?_
    refine W.eq (g2 := F0 m 35 ls [.int (zG r i)]) (by rw [cl_nI (by omega)]) ?_
    exact W.iret (v := zG r i) hx hb hr (fun t ht hW => ⟨⟨zG r i, (0, zC r, zW r, zG r, zP r, zS r, zH r, zR r, zO r, zD r, zL r), rfl, by unfold zChd; rw [hq]; first | done | rfl, by show va_P (dC, dI) vwC _ t.heap; rw [ht]; exact hP⟩, hS.F ht⟩) hS.2.2 d_M_changed_35
set_option maxHeartbeats 4000000 in
set_option maxRecDepth 100000 in
theorem m_M_back (l : Launch) (dC : Nat → ClassId) (dI : Nat → Nat → Nat) (k : Nat → ClassId) (a : Nat → Nat) (sz : Nat) (r : xRS) (tt : Int32) (hok : mOk r) : Met l y_M_back w_M_back (rmx 2 0 0 80) (mPc dC dI k a sz r [.ref (a 0), .int tt]) (va_Qv (fun u => u = zBack r tt) (mB dC dI k a) (va_A (mW k a r) sz)) 0 0 (va_A (mW k a r) sz) := by
  refine Met.ofW (cc := c_M_back) (maxL := 2) (ret := none) (by decide) rfl ?_
  intro p e s m args below meth c s₁ B hml hv
  obtain ⟨rfl, hsz, hP, hK, hD0⟩ := hv
  have hx := B.exec
  have hb := B.bytes
  have hr := B.returns
  have hts := atoms_spec (ws := w_M_back) B.pre
  have hB : ∀ w ∈ BIG, w.before _ s = true := fun w h => hts w (List.mem_cons_of_mem _ h)
  have hown : s.vm.findClass R_M = some m.cls := findClass_of_methodNamed B.named
  have hlocks := B.notSynchronized
  have hl := lv_entry ([.ref (a 0), .int tt]) (n := 2) (Nat.le_of_ble_eq_true rfl)
  rw [lg_entry_eq]
  generalize (lg_sl ([.ref (a 0), .int tt]) ++ List.replicate (2 - (lg_sl ([.ref (a 0), .int tt])).length) Slot.unset).toArray = ls at hl ⊢
  have hl : lv_has ls 2 [(0, .ref (a 0)), (1, .int tt)] := hl
  subst hsz
  have hD := hD0.self (sz := s.heap.size)
  generalize hAe : va_A (mW k a r) s.heap.size = A at hD ⊢
  have hA : ∀ q : Nat, s.heap.size ≤ q → A q := fun q h => by rw [← hAe]; exact Or.inr h
  have hS : va_S A s.heap s.heap [] := va_S.rf
  have hDk := hD
  cases hq : ix 8 tt with
  | none =>
    refine lv_aload_n hx hb d_M_back_0 rfl (lv_at hl 0 rfl) ?_
    refine lv_iconst (v := 0) hx hb d_M_back_1 (by decide) ?_
    refine va_put (D := (dC, dI)) (ci := 2) (v := .int 0) (ty := .int) (C := R_M) (T := F_M) (N := 11) hx hb hB in_M tf_M ty_M nm_M hown hK hP hD hS 0 rfl rfl 0 (by decide) (hB _ bw_355) (fun _ h9 => h9) rfl (by decide +kernel) rfl rfl (Nat.le_of_ble_eq_true rfl) d_M_back_2 (fun H locs hP hD hS => ?_)
    have hP : va_P (dC, dI) vwC (mW k a (0, zC r, zW r, zG r, zP r, zS r, zH r, zR r, zO r, zD r, zL r)) H := hP
    have hD : va_D A (mW k a (0, zC r, zW r, zG r, zP r, zS r, zH r, zR r, zO r, zD r, zL r)) := hD
    refine lv_aload_n hx hb d_M_back_5 rfl (lv_at hl 0 rfl) ?_
    refine lv_iload_n hx hb d_M_back_6 rfl (lv_at hl 1 rfl) ?_
    refine vp_callSi (va_Run.run (va_runS (As := [.int tt]) (rest := [.ref (a 0)]) ⟨hx, hb, hml, hown, hB⟩ (m_M_isOne l tt) (va_cwS 1 hB (BIG_SS bw_387 bw_388 bw_18 bw_389) rfl rfl rfl ⟨by decide, by decide, by decide +kernel⟩ ⟨Nat.le_of_ble_eq_true rfl, Nat.le_of_ble_eq_true rfl⟩) preEq rfl rfl hl.1 rfl (lv_room (Nat.le_of_ble_eq_true rfl)) d_M_back_7 ⟨Nat.zero_le _, Nat.zero_le _⟩)) (fun r7 hr7 => ?_)
    refine W.eq (g2 := F0 m 10 ls [.int (bI false), .ref (a 0)]) (by rw [hr7, hq]; rfl) ?_
    refine lv_if_ne hx hb d_M_back_10 rfl (fun h9 => absurd h9 (by decide)) (fun _ => ?_)
    refine lv_iconst (v := bI true) hx hb d_M_back_13 (by decide) ?_
    refine lv_goto hx hb d_M_back_14 rfl ?_
    refine lv_iconst (v := 1) hx hb d_M_back_18 (by decide) ?_
    have hFc := va_free (wc := mW k a (0, zC r, zW r, zG r, zP r, zS r, zH r, zR r, zO r, zD r, zL r)) hD hS hA [0, 1, 2, 3, 4, 5, 6, 7, 8] rfl
    refine va_calli (va_runV (As := [.int (bI true), .int 1]) (rest := []) ⟨hx, hb, hml, hown, hB⟩ (m_M_fails_t l dC dI k a _ (0, zC r, zW r, zG r, zP r, zS r, zH r, zR r, zO r, zD r, zL r) 1 rfl (by decide)) (cwV 2 hB (BIG_V bw_394 bw_395 bw_10 bw_18 bw_396) rfl rfl rfl ⟨rfl, by decide, by decide, by decide +kernel⟩ ⟨Nat.le_of_ble_eq_true rfl, Nat.le_of_ble_eq_true rfl⟩) (mPc_pre _ hP hK hD) rfl rfl hl.1 rfl (lv_room (Nat.le_of_ble_eq_true rfl)) d_M_back_19 ⟨Nat.zero_le _, Nat.zero_le _⟩) hS (fun q _ h => hFc q h) hFc (fun r7 u t H1 locs ht hvm hw hB1 hz1 hk1 hS => ?_)
    obtain ⟨hw1, hw2⟩ := hw
    subst hw1
    subst hw2
    have hP : va_P (dC, dI) vwC (mW k a (zErr (0, zC r, zW r, zG r, zP r, zS r, zH r, zR r, zO r, zD r, zL r) 1)) H1 := by rw [← ht]; exact hB1
    have hD : va_D A (mW k a (zErr (0, zC r, zW r, zG r, zP r, zS r, zH r, zR r, zO r, zD r, zL r) 1)) := mW_D hDk
    clear hFc hB1 hk1 hz1 ht hvm
    generalize H1 = H at hP hS ⊢
    have hP : va_P (dC, dI) vwC (mW k a (1, zC r, zW r, zG r, zP r, zS r, zH r, zR r, zO r, zD r, zL r)) H := hP
    have hD : va_D A (mW k a (1, zC r, zW r, zG r, zP r, zS r, zH r, zR r, zO r, zD r, zL r)) := hD
    refine lv_if_ne hx hb d_M_back_22 rfl (fun _ => ?_) (fun h9 => absurd h9 (by decide))
    exact W.vret hx hb hr (fun t ht hW => ⟨⟨(1, zC r, zW r, zG r, zP r, zS r, zH r, zR r, zO r, zD r, zL r), rfl, by unfold zBack; rw [hq]; first | done | rfl, by show va_P (dC, dI) vwC _ t.heap; rw [ht]; exact hP⟩, hS.F ht⟩) hS.2.2 d_M_back_70
  | some j =>
    obtain ⟨hj, htj⟩ := ix_some (by decide) hq
    subst htj
    cases ho : zO r j with
    | false =>
      refine lv_aload_n hx hb d_M_back_0 rfl (lv_at hl 0 rfl) ?_
      refine lv_iconst (v := 0) hx hb d_M_back_1 (by decide) ?_
      refine va_put (D := (dC, dI)) (ci := 2) (v := .int 0) (ty := .int) (C := R_M) (T := F_M) (N := 11) hx hb hB in_M tf_M ty_M nm_M hown hK hP hD hS 0 rfl rfl 0 (by decide) (hB _ bw_355) (fun _ h9 => h9) rfl (by decide +kernel) rfl rfl (Nat.le_of_ble_eq_true rfl) d_M_back_2 (fun H locs hP hD hS => ?_)
      have hP : va_P (dC, dI) vwC (mW k a (0, zC r, zW r, zG r, zP r, zS r, zH r, zR r, zO r, zD r, zL r)) H := hP
      have hD : va_D A (mW k a (0, zC r, zW r, zG r, zP r, zS r, zH r, zR r, zO r, zD r, zL r)) := hD
      refine lv_aload_n hx hb d_M_back_5 rfl (lv_at hl 0 rfl) ?_
      refine lv_iload_n hx hb d_M_back_6 rfl (lv_at hl 1 rfl) ?_
      refine vp_callSi (va_Run.run (va_runS (As := [.int (nI j)]) (rest := [.ref (a 0)]) ⟨hx, hb, hml, hown, hB⟩ (m_M_isOne l (nI j)) (va_cwS 1 hB (BIG_SS bw_387 bw_388 bw_18 bw_389) rfl rfl rfl ⟨by decide, by decide, by decide +kernel⟩ ⟨Nat.le_of_ble_eq_true rfl, Nat.le_of_ble_eq_true rfl⟩) preEq rfl rfl hl.1 rfl (lv_room (Nat.le_of_ble_eq_true rfl)) d_M_back_7 ⟨Nat.zero_le _, Nat.zero_le _⟩)) (fun r7 hr7 => ?_)
      refine W.eq (g2 := F0 m 10 ls [.int (bI true), .ref (a 0)]) (by rw [hr7, hq]; rfl) ?_
      refine lv_if_ne hx hb d_M_back_10 rfl (fun _ => ?_) (fun h9 => absurd h9 (by decide))
      refine lv_iconst (v := bI false) hx hb d_M_back_17 (by decide) ?_
      refine lv_iconst (v := 1) hx hb d_M_back_18 (by decide) ?_
      have hFc := va_free (wc := mW k a (0, zC r, zW r, zG r, zP r, zS r, zH r, zR r, zO r, zD r, zL r)) hD hS hA [0, 1, 2, 3, 4, 5, 6, 7, 8] rfl
      refine va_calli (va_runV (As := [.int (bI false), .int 1]) (rest := []) ⟨hx, hb, hml, hown, hB⟩ (m_M_fails_f l dC dI k a _ (0, zC r, zW r, zG r, zP r, zS r, zH r, zR r, zO r, zD r, zL r) 1 rfl) (cwV 2 hB (BIG_V bw_394 bw_395 bw_10 bw_18 bw_396) rfl rfl rfl ⟨rfl, by decide, by decide, by decide +kernel⟩ ⟨Nat.le_of_ble_eq_true rfl, Nat.le_of_ble_eq_true rfl⟩) (mPc_pre _ hP hK hD) rfl rfl hl.1 rfl (lv_room (Nat.le_of_ble_eq_true rfl)) d_M_back_19 ⟨Nat.zero_le _, Nat.zero_le _⟩) hS (fun q _ h => hFc q h) hFc (fun r7 u t H1 locs ht hvm hw hB1 hz1 hk1 hS => ?_)
      obtain ⟨hw1, hw2⟩ := hw
      subst hw1
      subst hw2
      have hP : va_P (dC, dI) vwC (mW k a (0, zC r, zW r, zG r, zP r, zS r, zH r, zR r, zO r, zD r, zL r)) H1 := by rw [← ht]; exact hB1
      have hD : va_D A (mW k a (0, zC r, zW r, zG r, zP r, zS r, zH r, zR r, zO r, zD r, zL r)) := mW_D hDk
      clear hFc hB1 hk1 hz1 ht hvm
      generalize H1 = H at hP hS ⊢
      refine lv_if_ne hx hb d_M_back_22 rfl (fun h9 => absurd h9 (by decide)) (fun _ => ?_)
      refine lv_aload_n hx hb d_M_back_25 rfl (lv_at hl 0 rfl) ?_
      refine lv_aload_n hx hb d_M_back_26 rfl (lv_at hl 0 rfl) ?_
      refine va_get (D := (dC, dI)) (ci := 2) (v := .ref (a 8)) (C := R_M) (T := F_M) (N := 11) hx hb hB in_M hown hK hP 0 rfl rfl 8 (by decide) (hB _ bw_363) (fun _ h9 => h9) rfl d_M_back_27 ?_
      refine lv_iload_n hx hb d_M_back_30 rfl (lv_at hl 1 rfl) ?_
      refine va_zald hx hb hK hP 8 4 rfl rfl (pk_in j 8 (by omega)) d_M_back_31 ?_
      refine W.eq (g2 := F0 m 32 ls [.int (bI (zO r j)), .ref (a 0)]) (by rw [cl_nI (by omega)]) ?_
      refine W.eq (g2 := F0 m 32 ls [.int (bI false), .ref (a 0)]) (by rw [ho]) ?_
      refine lv_if_ne hx hb d_M_back_32 rfl (fun h9 => absurd h9 (by decide)) (fun _ => ?_)
      refine lv_iconst (v := bI true) hx hb d_M_back_35 (by decide) ?_
      refine lv_goto hx hb d_M_back_36 rfl ?_
      refine lv_iconst (v := 2) hx hb d_M_back_40 (by decide) ?_
      have hFc := va_free (wc := mW k a (0, zC r, zW r, zG r, zP r, zS r, zH r, zR r, zO r, zD r, zL r)) hD hS hA [0, 1, 2, 3, 4, 5, 6, 7, 8] rfl
      refine va_calli (va_runV (As := [.int (bI true), .int 2]) (rest := []) ⟨hx, hb, hml, hown, hB⟩ (m_M_fails_t l dC dI k a _ (0, zC r, zW r, zG r, zP r, zS r, zH r, zR r, zO r, zD r, zL r) 2 rfl (by decide)) (cwV 2 hB (BIG_V bw_394 bw_395 bw_10 bw_18 bw_396) rfl rfl rfl ⟨rfl, by decide, by decide, by decide +kernel⟩ ⟨Nat.le_of_ble_eq_true rfl, Nat.le_of_ble_eq_true rfl⟩) (mPc_pre _ hP hK hD) rfl rfl hl.1 rfl (lv_room (Nat.le_of_ble_eq_true rfl)) d_M_back_41 ⟨Nat.zero_le _, Nat.zero_le _⟩) hS (fun q _ h => hFc q h) hFc (fun r7 u t H1 locs ht hvm hw hB1 hz1 hk1 hS => ?_)
      obtain ⟨hw1, hw2⟩ := hw
      subst hw1
      subst hw2
      have hP : va_P (dC, dI) vwC (mW k a (zErr (0, zC r, zW r, zG r, zP r, zS r, zH r, zR r, zO r, zD r, zL r) 2)) H1 := by rw [← ht]; exact hB1
      have hD : va_D A (mW k a (zErr (0, zC r, zW r, zG r, zP r, zS r, zH r, zR r, zO r, zD r, zL r) 2)) := mW_D hDk
      clear hFc hB1 hk1 hz1 ht hvm
      generalize H1 = H at hP hS ⊢
      have hP : va_P (dC, dI) vwC (mW k a (2, zC r, zW r, zG r, zP r, zS r, zH r, zR r, zO r, zD r, zL r)) H := hP
      have hD : va_D A (mW k a (2, zC r, zW r, zG r, zP r, zS r, zH r, zR r, zO r, zD r, zL r)) := hD
      refine lv_if_ne hx hb d_M_back_44 rfl (fun _ => ?_) (fun h9 => absurd h9 (by decide))
      exact W.vret hx hb hr (fun t ht hW => ⟨⟨(2, zC r, zW r, zG r, zP r, zS r, zH r, zR r, zO r, zD r, zL r), rfl, by unfold zBack; rw [hq]; dsimp only; rw [if_pos ho]; first | done | rfl, by show va_P (dC, dI) vwC _ t.heap; rw [ht]; exact hP⟩, hS.F ht⟩) hS.2.2 d_M_back_70
    | true =>
      obtain ⟨hp1, hp5⟩ := hok j hj ho
      by_cases h1 : zP r j = 1
      · have h2 : nI (zP r j) = nI 1 := by rw [h1]
        refine lv_aload_n hx hb d_M_back_0 rfl (lv_at hl 0 rfl) ?_
        refine lv_iconst (v := 0) hx hb d_M_back_1 (by decide) ?_
        refine va_put (D := (dC, dI)) (ci := 2) (v := .int 0) (ty := .int) (C := R_M) (T := F_M) (N := 11) hx hb hB in_M tf_M ty_M nm_M hown hK hP hD hS 0 rfl rfl 0 (by decide) (hB _ bw_355) (fun _ h9 => h9) rfl (by decide +kernel) rfl rfl (Nat.le_of_ble_eq_true rfl) d_M_back_2 (fun H locs hP hD hS => ?_)
        have hP : va_P (dC, dI) vwC (mW k a (0, zC r, zW r, zG r, zP r, zS r, zH r, zR r, zO r, zD r, zL r)) H := hP
        have hD : va_D A (mW k a (0, zC r, zW r, zG r, zP r, zS r, zH r, zR r, zO r, zD r, zL r)) := hD
        refine lv_aload_n hx hb d_M_back_5 rfl (lv_at hl 0 rfl) ?_
        refine lv_iload_n hx hb d_M_back_6 rfl (lv_at hl 1 rfl) ?_
        refine vp_callSi (va_Run.run (va_runS (As := [.int (nI j)]) (rest := [.ref (a 0)]) ⟨hx, hb, hml, hown, hB⟩ (m_M_isOne l (nI j)) (va_cwS 1 hB (BIG_SS bw_387 bw_388 bw_18 bw_389) rfl rfl rfl ⟨by decide, by decide, by decide +kernel⟩ ⟨Nat.le_of_ble_eq_true rfl, Nat.le_of_ble_eq_true rfl⟩) preEq rfl rfl hl.1 rfl (lv_room (Nat.le_of_ble_eq_true rfl)) d_M_back_7 ⟨Nat.zero_le _, Nat.zero_le _⟩)) (fun r7 hr7 => ?_)
        refine W.eq (g2 := F0 m 10 ls [.int (bI true), .ref (a 0)]) (by rw [hr7, hq]; rfl) ?_
        refine lv_if_ne hx hb d_M_back_10 rfl (fun _ => ?_) (fun h9 => absurd h9 (by decide))
        refine lv_iconst (v := bI false) hx hb d_M_back_17 (by decide) ?_
        refine lv_iconst (v := 1) hx hb d_M_back_18 (by decide) ?_
        have hFc := va_free (wc := mW k a (0, zC r, zW r, zG r, zP r, zS r, zH r, zR r, zO r, zD r, zL r)) hD hS hA [0, 1, 2, 3, 4, 5, 6, 7, 8] rfl
        refine va_calli (va_runV (As := [.int (bI false), .int 1]) (rest := []) ⟨hx, hb, hml, hown, hB⟩ (m_M_fails_f l dC dI k a _ (0, zC r, zW r, zG r, zP r, zS r, zH r, zR r, zO r, zD r, zL r) 1 rfl) (cwV 2 hB (BIG_V bw_394 bw_395 bw_10 bw_18 bw_396) rfl rfl rfl ⟨rfl, by decide, by decide, by decide +kernel⟩ ⟨Nat.le_of_ble_eq_true rfl, Nat.le_of_ble_eq_true rfl⟩) (mPc_pre _ hP hK hD) rfl rfl hl.1 rfl (lv_room (Nat.le_of_ble_eq_true rfl)) d_M_back_19 ⟨Nat.zero_le _, Nat.zero_le _⟩) hS (fun q _ h => hFc q h) hFc (fun r7 u t H1 locs ht hvm hw hB1 hz1 hk1 hS => ?_)
        obtain ⟨hw1, hw2⟩ := hw
        subst hw1
        subst hw2
        have hP : va_P (dC, dI) vwC (mW k a (0, zC r, zW r, zG r, zP r, zS r, zH r, zR r, zO r, zD r, zL r)) H1 := by rw [← ht]; exact hB1
        have hD : va_D A (mW k a (0, zC r, zW r, zG r, zP r, zS r, zH r, zR r, zO r, zD r, zL r)) := mW_D hDk
        clear hFc hB1 hk1 hz1 ht hvm
        generalize H1 = H at hP hS ⊢
        refine lv_if_ne hx hb d_M_back_22 rfl (fun h9 => absurd h9 (by decide)) (fun _ => ?_)
        refine lv_aload_n hx hb d_M_back_25 rfl (lv_at hl 0 rfl) ?_
        refine lv_aload_n hx hb d_M_back_26 rfl (lv_at hl 0 rfl) ?_
        refine va_get (D := (dC, dI)) (ci := 2) (v := .ref (a 8)) (C := R_M) (T := F_M) (N := 11) hx hb hB in_M hown hK hP 0 rfl rfl 8 (by decide) (hB _ bw_363) (fun _ h9 => h9) rfl d_M_back_27 ?_
        refine lv_iload_n hx hb d_M_back_30 rfl (lv_at hl 1 rfl) ?_
        refine va_zald hx hb hK hP 8 4 rfl rfl (pk_in j 8 (by omega)) d_M_back_31 ?_
        refine W.eq (g2 := F0 m 32 ls [.int (bI (zO r j)), .ref (a 0)]) (by rw [cl_nI (by omega)]) ?_
        refine W.eq (g2 := F0 m 32 ls [.int (bI true), .ref (a 0)]) (by rw [ho]) ?_
        refine lv_if_ne hx hb d_M_back_32 rfl (fun _ => ?_) (fun h9 => absurd h9 (by decide))
        refine lv_iconst (v := bI false) hx hb d_M_back_39 (by decide) ?_
        refine lv_iconst (v := 2) hx hb d_M_back_40 (by decide) ?_
        have hFc := va_free (wc := mW k a (0, zC r, zW r, zG r, zP r, zS r, zH r, zR r, zO r, zD r, zL r)) hD hS hA [0, 1, 2, 3, 4, 5, 6, 7, 8] rfl
        refine va_calli (va_runV (As := [.int (bI false), .int 2]) (rest := []) ⟨hx, hb, hml, hown, hB⟩ (m_M_fails_f l dC dI k a _ (0, zC r, zW r, zG r, zP r, zS r, zH r, zR r, zO r, zD r, zL r) 2 rfl) (cwV 2 hB (BIG_V bw_394 bw_395 bw_10 bw_18 bw_396) rfl rfl rfl ⟨rfl, by decide, by decide, by decide +kernel⟩ ⟨Nat.le_of_ble_eq_true rfl, Nat.le_of_ble_eq_true rfl⟩) (mPc_pre _ hP hK hD) rfl rfl hl.1 rfl (lv_room (Nat.le_of_ble_eq_true rfl)) d_M_back_41 ⟨Nat.zero_le _, Nat.zero_le _⟩) hS (fun q _ h => hFc q h) hFc (fun r7 u t H1 locs ht hvm hw hB1 hz1 hk1 hS => ?_)
        obtain ⟨hw1, hw2⟩ := hw
        subst hw1
        subst hw2
        have hP : va_P (dC, dI) vwC (mW k a (0, zC r, zW r, zG r, zP r, zS r, zH r, zR r, zO r, zD r, zL r)) H1 := by rw [← ht]; exact hB1
        have hD : va_D A (mW k a (0, zC r, zW r, zG r, zP r, zS r, zH r, zR r, zO r, zD r, zL r)) := mW_D hDk
        clear hFc hB1 hk1 hz1 ht hvm
        generalize H1 = H at hP hS ⊢
        refine lv_if_ne hx hb d_M_back_44 rfl (fun h9 => absurd h9 (by decide)) (fun _ => ?_)
        refine lv_aload_n hx hb d_M_back_47 rfl (lv_at hl 0 rfl) ?_
        refine lv_aload_n hx hb d_M_back_48 rfl (lv_at hl 0 rfl) ?_
        refine va_get (D := (dC, dI)) (ci := 2) (v := .ref (a 4)) (C := R_M) (T := F_M) (N := 11) hx hb hB in_M hown hK hP 0 rfl rfl 4 (by decide) (hB _ bw_359) (fun _ h9 => h9) rfl d_M_back_49 ?_
        refine lv_iload_n hx hb d_M_back_52 rfl (lv_at hl 1 rfl) ?_
        refine va_iald hx hb hK hP 4 0 rfl rfl (pk_in j 8 (by omega)) d_M_back_53 ?_
        refine W.eq (g2 := F0 m 54 ls [.int (nI (zP r j)), .ref (a 0)]) (by rw [cl_nI (by omega)]) ?_
        refine lv_iconst (v := nI 1) hx hb d_M_back_54 (by decide) ?_
        refine lv_icmp_ne hx hb d_M_back_55 rfl (fun h9 => absurd h9 (fun q => q h2)) (fun _ => ?_)
        refine lv_iconst (v := bI true) hx hb d_M_back_58 (by decide) ?_
        refine lv_goto hx hb d_M_back_59 rfl ?_
        refine lv_iconst (v := 3) hx hb d_M_back_63 (by decide) ?_
        have hFc := va_free (wc := mW k a (0, zC r, zW r, zG r, zP r, zS r, zH r, zR r, zO r, zD r, zL r)) hD hS hA [0, 1, 2, 3, 4, 5, 6, 7, 8] rfl
        refine va_calli (va_runV (As := [.int (bI true), .int 3]) (rest := []) ⟨hx, hb, hml, hown, hB⟩ (m_M_fails_t l dC dI k a _ (0, zC r, zW r, zG r, zP r, zS r, zH r, zR r, zO r, zD r, zL r) 3 rfl (by decide)) (cwV 2 hB (BIG_V bw_394 bw_395 bw_10 bw_18 bw_396) rfl rfl rfl ⟨rfl, by decide, by decide, by decide +kernel⟩ ⟨Nat.le_of_ble_eq_true rfl, Nat.le_of_ble_eq_true rfl⟩) (mPc_pre _ hP hK hD) rfl rfl hl.1 rfl (lv_room (Nat.le_of_ble_eq_true rfl)) d_M_back_64 ⟨Nat.zero_le _, Nat.zero_le _⟩) hS (fun q _ h => hFc q h) hFc (fun r7 u t H1 locs ht hvm hw hB1 hz1 hk1 hS => ?_)
        obtain ⟨hw1, hw2⟩ := hw
        subst hw1
        subst hw2
        have hP : va_P (dC, dI) vwC (mW k a (zErr (0, zC r, zW r, zG r, zP r, zS r, zH r, zR r, zO r, zD r, zL r) 3)) H1 := by rw [← ht]; exact hB1
        have hD : va_D A (mW k a (zErr (0, zC r, zW r, zG r, zP r, zS r, zH r, zR r, zO r, zD r, zL r) 3)) := mW_D hDk
        clear hFc hB1 hk1 hz1 ht hvm
        generalize H1 = H at hP hS ⊢
        have hP : va_P (dC, dI) vwC (mW k a (3, zC r, zW r, zG r, zP r, zS r, zH r, zR r, zO r, zD r, zL r)) H := hP
        have hD : va_D A (mW k a (3, zC r, zW r, zG r, zP r, zS r, zH r, zR r, zO r, zD r, zL r)) := hD
        refine lv_if_eq hx hb d_M_back_67 rfl (fun h9 => absurd h9 (by decide)) (fun _ => ?_)
        exact W.vret hx hb hr (fun t ht hW => ⟨⟨(3, zC r, zW r, zG r, zP r, zS r, zH r, zR r, zO r, zD r, zL r), rfl, by unfold zBack; rw [hq]; dsimp only; rw [if_neg (by rw [ho]; decide)]; rw [if_pos h1]; first | done | rfl, by show va_P (dC, dI) vwC _ t.heap; rw [ht]; exact hP⟩, hS.F ht⟩) hS.2.2 d_M_back_70
      · have h2 : ¬ nI (zP r j) = nI 1 := fun q => h1 ((nI_eq (by omega) (by omega)).mp q)
        refine lv_aload_n hx hb d_M_back_0 rfl (lv_at hl 0 rfl) ?_
        refine lv_iconst (v := 0) hx hb d_M_back_1 (by decide) ?_
        refine va_put (D := (dC, dI)) (ci := 2) (v := .int 0) (ty := .int) (C := R_M) (T := F_M) (N := 11) hx hb hB in_M tf_M ty_M nm_M hown hK hP hD hS 0 rfl rfl 0 (by decide) (hB _ bw_355) (fun _ h9 => h9) rfl (by decide +kernel) rfl rfl (Nat.le_of_ble_eq_true rfl) d_M_back_2 (fun H locs hP hD hS => ?_)
        have hP : va_P (dC, dI) vwC (mW k a (0, zC r, zW r, zG r, zP r, zS r, zH r, zR r, zO r, zD r, zL r)) H := hP
        have hD : va_D A (mW k a (0, zC r, zW r, zG r, zP r, zS r, zH r, zR r, zO r, zD r, zL r)) := hD
        refine lv_aload_n hx hb d_M_back_5 rfl (lv_at hl 0 rfl) ?_
        refine lv_iload_n hx hb d_M_back_6 rfl (lv_at hl 1 rfl) ?_
        refine vp_callSi (va_Run.run (va_runS (As := [.int (nI j)]) (rest := [.ref (a 0)]) ⟨hx, hb, hml, hown, hB⟩ (m_M_isOne l (nI j)) (va_cwS 1 hB (BIG_SS bw_387 bw_388 bw_18 bw_389) rfl rfl rfl ⟨by decide, by decide, by decide +kernel⟩ ⟨Nat.le_of_ble_eq_true rfl, Nat.le_of_ble_eq_true rfl⟩) preEq rfl rfl hl.1 rfl (lv_room (Nat.le_of_ble_eq_true rfl)) d_M_back_7 ⟨Nat.zero_le _, Nat.zero_le _⟩)) (fun r7 hr7 => ?_)
        refine W.eq (g2 := F0 m 10 ls [.int (bI true), .ref (a 0)]) (by rw [hr7, hq]; rfl) ?_
        refine lv_if_ne hx hb d_M_back_10 rfl (fun _ => ?_) (fun h9 => absurd h9 (by decide))
        refine lv_iconst (v := bI false) hx hb d_M_back_17 (by decide) ?_
        refine lv_iconst (v := 1) hx hb d_M_back_18 (by decide) ?_
        have hFc := va_free (wc := mW k a (0, zC r, zW r, zG r, zP r, zS r, zH r, zR r, zO r, zD r, zL r)) hD hS hA [0, 1, 2, 3, 4, 5, 6, 7, 8] rfl
        refine va_calli (va_runV (As := [.int (bI false), .int 1]) (rest := []) ⟨hx, hb, hml, hown, hB⟩ (m_M_fails_f l dC dI k a _ (0, zC r, zW r, zG r, zP r, zS r, zH r, zR r, zO r, zD r, zL r) 1 rfl) (cwV 2 hB (BIG_V bw_394 bw_395 bw_10 bw_18 bw_396) rfl rfl rfl ⟨rfl, by decide, by decide, by decide +kernel⟩ ⟨Nat.le_of_ble_eq_true rfl, Nat.le_of_ble_eq_true rfl⟩) (mPc_pre _ hP hK hD) rfl rfl hl.1 rfl (lv_room (Nat.le_of_ble_eq_true rfl)) d_M_back_19 ⟨Nat.zero_le _, Nat.zero_le _⟩) hS (fun q _ h => hFc q h) hFc (fun r7 u t H1 locs ht hvm hw hB1 hz1 hk1 hS => ?_)
        obtain ⟨hw1, hw2⟩ := hw
        subst hw1
        subst hw2
        have hP : va_P (dC, dI) vwC (mW k a (0, zC r, zW r, zG r, zP r, zS r, zH r, zR r, zO r, zD r, zL r)) H1 := by rw [← ht]; exact hB1
        have hD : va_D A (mW k a (0, zC r, zW r, zG r, zP r, zS r, zH r, zR r, zO r, zD r, zL r)) := mW_D hDk
        clear hFc hB1 hk1 hz1 ht hvm
        generalize H1 = H at hP hS ⊢
        refine lv_if_ne hx hb d_M_back_22 rfl (fun h9 => absurd h9 (by decide)) (fun _ => ?_)
        refine lv_aload_n hx hb d_M_back_25 rfl (lv_at hl 0 rfl) ?_
        refine lv_aload_n hx hb d_M_back_26 rfl (lv_at hl 0 rfl) ?_
        refine va_get (D := (dC, dI)) (ci := 2) (v := .ref (a 8)) (C := R_M) (T := F_M) (N := 11) hx hb hB in_M hown hK hP 0 rfl rfl 8 (by decide) (hB _ bw_363) (fun _ h9 => h9) rfl d_M_back_27 ?_
        refine lv_iload_n hx hb d_M_back_30 rfl (lv_at hl 1 rfl) ?_
        refine va_zald hx hb hK hP 8 4 rfl rfl (pk_in j 8 (by omega)) d_M_back_31 ?_
        refine W.eq (g2 := F0 m 32 ls [.int (bI (zO r j)), .ref (a 0)]) (by rw [cl_nI (by omega)]) ?_
        refine W.eq (g2 := F0 m 32 ls [.int (bI true), .ref (a 0)]) (by rw [ho]) ?_
        refine lv_if_ne hx hb d_M_back_32 rfl (fun _ => ?_) (fun h9 => absurd h9 (by decide))
        refine lv_iconst (v := bI false) hx hb d_M_back_39 (by decide) ?_
        refine lv_iconst (v := 2) hx hb d_M_back_40 (by decide) ?_
        have hFc := va_free (wc := mW k a (0, zC r, zW r, zG r, zP r, zS r, zH r, zR r, zO r, zD r, zL r)) hD hS hA [0, 1, 2, 3, 4, 5, 6, 7, 8] rfl
        refine va_calli (va_runV (As := [.int (bI false), .int 2]) (rest := []) ⟨hx, hb, hml, hown, hB⟩ (m_M_fails_f l dC dI k a _ (0, zC r, zW r, zG r, zP r, zS r, zH r, zR r, zO r, zD r, zL r) 2 rfl) (cwV 2 hB (BIG_V bw_394 bw_395 bw_10 bw_18 bw_396) rfl rfl rfl ⟨rfl, by decide, by decide, by decide +kernel⟩ ⟨Nat.le_of_ble_eq_true rfl, Nat.le_of_ble_eq_true rfl⟩) (mPc_pre _ hP hK hD) rfl rfl hl.1 rfl (lv_room (Nat.le_of_ble_eq_true rfl)) d_M_back_41 ⟨Nat.zero_le _, Nat.zero_le _⟩) hS (fun q _ h => hFc q h) hFc (fun r7 u t H1 locs ht hvm hw hB1 hz1 hk1 hS => ?_)
        obtain ⟨hw1, hw2⟩ := hw
        subst hw1
        subst hw2
        have hP : va_P (dC, dI) vwC (mW k a (0, zC r, zW r, zG r, zP r, zS r, zH r, zR r, zO r, zD r, zL r)) H1 := by rw [← ht]; exact hB1
        have hD : va_D A (mW k a (0, zC r, zW r, zG r, zP r, zS r, zH r, zR r, zO r, zD r, zL r)) := mW_D hDk
        clear hFc hB1 hk1 hz1 ht hvm
        generalize H1 = H at hP hS ⊢
        refine lv_if_ne hx hb d_M_back_44 rfl (fun h9 => absurd h9 (by decide)) (fun _ => ?_)
        refine lv_aload_n hx hb d_M_back_47 rfl (lv_at hl 0 rfl) ?_
        refine lv_aload_n hx hb d_M_back_48 rfl (lv_at hl 0 rfl) ?_
        refine va_get (D := (dC, dI)) (ci := 2) (v := .ref (a 4)) (C := R_M) (T := F_M) (N := 11) hx hb hB in_M hown hK hP 0 rfl rfl 4 (by decide) (hB _ bw_359) (fun _ h9 => h9) rfl d_M_back_49 ?_
        refine lv_iload_n hx hb d_M_back_52 rfl (lv_at hl 1 rfl) ?_
        refine va_iald hx hb hK hP 4 0 rfl rfl (pk_in j 8 (by omega)) d_M_back_53 ?_
        refine W.eq (g2 := F0 m 54 ls [.int (nI (zP r j)), .ref (a 0)]) (by rw [cl_nI (by omega)]) ?_
        refine lv_iconst (v := nI 1) hx hb d_M_back_54 (by decide) ?_
        refine lv_icmp_ne hx hb d_M_back_55 rfl (fun _ => ?_) (fun h9 => absurd h9 (h2))
        refine lv_iconst (v := bI false) hx hb d_M_back_62 (by decide) ?_
        refine lv_iconst (v := 3) hx hb d_M_back_63 (by decide) ?_
        have hFc := va_free (wc := mW k a (0, zC r, zW r, zG r, zP r, zS r, zH r, zR r, zO r, zD r, zL r)) hD hS hA [0, 1, 2, 3, 4, 5, 6, 7, 8] rfl
        refine va_calli (va_runV (As := [.int (bI false), .int 3]) (rest := []) ⟨hx, hb, hml, hown, hB⟩ (m_M_fails_f l dC dI k a _ (0, zC r, zW r, zG r, zP r, zS r, zH r, zR r, zO r, zD r, zL r) 3 rfl) (cwV 2 hB (BIG_V bw_394 bw_395 bw_10 bw_18 bw_396) rfl rfl rfl ⟨rfl, by decide, by decide, by decide +kernel⟩ ⟨Nat.le_of_ble_eq_true rfl, Nat.le_of_ble_eq_true rfl⟩) (mPc_pre _ hP hK hD) rfl rfl hl.1 rfl (lv_room (Nat.le_of_ble_eq_true rfl)) d_M_back_64 ⟨Nat.zero_le _, Nat.zero_le _⟩) hS (fun q _ h => hFc q h) hFc (fun r7 u t H1 locs ht hvm hw hB1 hz1 hk1 hS => ?_)
        obtain ⟨hw1, hw2⟩ := hw
        subst hw1
        subst hw2
        have hP : va_P (dC, dI) vwC (mW k a (0, zC r, zW r, zG r, zP r, zS r, zH r, zR r, zO r, zD r, zL r)) H1 := by rw [← ht]; exact hB1
        have hD : va_D A (mW k a (0, zC r, zW r, zG r, zP r, zS r, zH r, zR r, zO r, zD r, zL r)) := mW_D hDk
        clear hFc hB1 hk1 hz1 ht hvm
        generalize H1 = H at hP hS ⊢
        refine lv_if_eq hx hb d_M_back_67 rfl (fun _ => ?_) (fun h9 => absurd (by decide) h9)
        refine lv_aload_n hx hb d_M_back_71 rfl (lv_at hl 0 rfl) ?_
        refine va_get (D := (dC, dI)) (ci := 2) (v := .ref (a 4)) (C := R_M) (T := F_M) (N := 11) hx hb hB in_M hown hK hP 0 rfl rfl 4 (by decide) (hB _ bw_359) (fun _ h9 => h9) rfl d_M_back_72 ?_
        refine lv_iload_n hx hb d_M_back_75 rfl (lv_at hl 1 rfl) ?_
        refine lv_dup2_11 hx hb d_M_back_76 rfl rfl ?_
        refine va_iald hx hb hK hP 4 0 rfl rfl (pk_in j 8 (by omega)) d_M_back_77 ?_
        refine W.eq (g2 := F0 m 78 ls [.int (nI (zP r j)), .int (nI j), .ref (a 4)]) (by rw [cl_nI (by omega)]) ?_
        refine lv_iconst (v := nI 1) hx hb d_M_back_78 (by decide) ?_
        refine lv_isub hx hb d_M_back_79 ?_
        refine W.eq (g2 := F0 m 80 ls [.int (nI ((zP r j) - 1)), .int (nI j), .ref (a 4)]) (by rw [pk_sub (by omega)]) ?_
        refine va_iast hx hb hK hP hD hS 4 0 rfl rfl (pk_in j 8 (by omega)) d_M_back_80 (fun H locs hP hD hS => ?_)
        rw [cl_nI (by omega), nI_upd] at hP
        have hP : va_P (dC, dI) vwC (mW k a (0, zC r, zW r, zG r, va_up (zP r) j ((zP r j) - 1), zS r, zH r, zR r, zO r, zD r, zL r)) H := hP
        have hD : va_D A (mW k a (0, zC r, zW r, zG r, va_up (zP r) j ((zP r j) - 1), zS r, zH r, zR r, zO r, zD r, zL r)) := mW_D hDk
        exact W.vret hx hb hr (fun t ht hW => ⟨⟨(0, zC r, zW r, zG r, va_up (zP r) j ((zP r j) - 1), zS r, zH r, zR r, zO r, zD r, zL r), rfl, by unfold zBack; rw [hq]; dsimp only; rw [if_neg (by rw [ho]; decide)]; rw [if_neg h1]; first | done | rfl, by show va_P (dC, dI) vwC _ t.heap; rw [ht]; exact hP⟩, hS.F ht⟩) hS.2.2 d_M_back_81
set_option maxHeartbeats 4000000 in
set_option maxRecDepth 100000 in
theorem m_M_write (l : Launch) (dC : Nat → ClassId) (dI : Nat → Nat → Nat) (k : Nat → ClassId) (a : Nat → Nat) (sz : Nat) (r : xRS) (tt kk : Int32) (x : Int64) (hok : mOk r) : Met l y_M_write w_M_write (rmx 2 0 0 80) (mPc dC dI k a sz r [.ref (a 0), .int tt, .int kk, .long x]) (va_Qv (fun u => u = zWrite r tt kk x) (mB dC dI k a) (va_A (mW k a r) sz)) 0 0 (va_A (mW k a r) sz) := by
  refine Met.ofW (cc := c_M_write) (maxL := 5) (ret := none) (by decide) rfl ?_
  intro p e s m args below meth c s₁ B hml hv
  obtain ⟨rfl, hsz, hP, hK, hD0⟩ := hv
  have hx := B.exec
  have hb := B.bytes
  have hr := B.returns
  have hts := atoms_spec (ws := w_M_write) B.pre
  have hB : ∀ w ∈ BIG, w.before _ s = true := fun w h => hts w (List.mem_cons_of_mem _ h)
  have hown : s.vm.findClass R_M = some m.cls := findClass_of_methodNamed B.named
  have hlocks := B.notSynchronized
  have hl := lv_entry ([.ref (a 0), .int tt, .int kk, .long x]) (n := 5) (Nat.le_of_ble_eq_true rfl)
  rw [lg_entry_eq]
  generalize (lg_sl ([.ref (a 0), .int tt, .int kk, .long x]) ++ List.replicate (5 - (lg_sl ([.ref (a 0), .int tt, .int kk, .long x])).length) Slot.unset).toArray = ls at hl ⊢
  have hl : lv_has ls 5 [(0, .ref (a 0)), (1, .int tt), (2, .int kk), (3, .long x)] := hl
  subst hsz
  have hD := hD0.self (sz := s.heap.size)
  generalize hAe : va_A (mW k a r) s.heap.size = A at hD ⊢
  have hA : ∀ q : Nat, s.heap.size ≤ q → A q := fun q h => by rw [← hAe]; exact Or.inr h
  have hS : va_S A s.heap s.heap [] := va_S.rf
  have hDk := hD
  cases hq : ix 8 tt with
  | none =>
    refine lv_aload_n hx hb d_M_write_0 rfl (lv_at hl 0 rfl) ?_
    refine lv_iconst (v := 0) hx hb d_M_write_1 (by decide) ?_
    refine va_put (D := (dC, dI)) (ci := 2) (v := .int 0) (ty := .int) (C := R_M) (T := F_M) (N := 11) hx hb hB in_M tf_M ty_M nm_M hown hK hP hD hS 0 rfl rfl 0 (by decide) (hB _ bw_355) (fun _ h9 => h9) rfl (by decide +kernel) rfl rfl (Nat.le_of_ble_eq_true rfl) d_M_write_2 (fun H locs hP hD hS => ?_)
    have hP : va_P (dC, dI) vwC (mW k a (0, zC r, zW r, zG r, zP r, zS r, zH r, zR r, zO r, zD r, zL r)) H := hP
    have hD : va_D A (mW k a (0, zC r, zW r, zG r, zP r, zS r, zH r, zR r, zO r, zD r, zL r)) := hD
    refine lv_aload_n hx hb d_M_write_5 rfl (lv_at hl 0 rfl) ?_
    refine lv_iload_n hx hb d_M_write_6 rfl (lv_at hl 1 rfl) ?_
    refine vp_callSi (va_Run.run (va_runS (As := [.int tt]) (rest := [.ref (a 0)]) ⟨hx, hb, hml, hown, hB⟩ (m_M_isOne l tt) (va_cwS 1 hB (BIG_SS bw_387 bw_388 bw_18 bw_389) rfl rfl rfl ⟨by decide, by decide, by decide +kernel⟩ ⟨Nat.le_of_ble_eq_true rfl, Nat.le_of_ble_eq_true rfl⟩) preEq rfl rfl hl.1 rfl (lv_room (Nat.le_of_ble_eq_true rfl)) d_M_write_7 ⟨Nat.zero_le _, Nat.zero_le _⟩)) (fun r7 hr7 => ?_)
    refine W.eq (g2 := F0 m 10 ls [.int (bI false), .ref (a 0)]) (by rw [hr7, hq]; rfl) ?_
    refine lv_if_ne hx hb d_M_write_10 rfl (fun h9 => absurd h9 (by decide)) (fun _ => ?_)
    refine lv_iconst (v := bI true) hx hb d_M_write_13 (by decide) ?_
    refine lv_goto hx hb d_M_write_14 rfl ?_
    refine lv_iconst (v := 1) hx hb d_M_write_18 (by decide) ?_
    have hFc := va_free (wc := mW k a (0, zC r, zW r, zG r, zP r, zS r, zH r, zR r, zO r, zD r, zL r)) hD hS hA [0, 1, 2, 3, 4, 5, 6, 7, 8] rfl
    refine va_calli (va_runV (As := [.int (bI true), .int 1]) (rest := []) ⟨hx, hb, hml, hown, hB⟩ (m_M_fails_t l dC dI k a _ (0, zC r, zW r, zG r, zP r, zS r, zH r, zR r, zO r, zD r, zL r) 1 rfl (by decide)) (cwV 2 hB (BIG_V bw_394 bw_395 bw_10 bw_18 bw_396) rfl rfl rfl ⟨rfl, by decide, by decide, by decide +kernel⟩ ⟨Nat.le_of_ble_eq_true rfl, Nat.le_of_ble_eq_true rfl⟩) (mPc_pre _ hP hK hD) rfl rfl hl.1 rfl (lv_room (Nat.le_of_ble_eq_true rfl)) d_M_write_19 ⟨Nat.zero_le _, Nat.zero_le _⟩) hS (fun q _ h => hFc q h) hFc (fun r7 u t H1 locs ht hvm hw hB1 hz1 hk1 hS => ?_)
    obtain ⟨hw1, hw2⟩ := hw
    subst hw1
    subst hw2
    have hP : va_P (dC, dI) vwC (mW k a (zErr (0, zC r, zW r, zG r, zP r, zS r, zH r, zR r, zO r, zD r, zL r) 1)) H1 := by rw [← ht]; exact hB1
    have hD : va_D A (mW k a (zErr (0, zC r, zW r, zG r, zP r, zS r, zH r, zR r, zO r, zD r, zL r) 1)) := mW_D hDk
    clear hFc hB1 hk1 hz1 ht hvm
    generalize H1 = H at hP hS ⊢
    have hP : va_P (dC, dI) vwC (mW k a (1, zC r, zW r, zG r, zP r, zS r, zH r, zR r, zO r, zD r, zL r)) H := hP
    have hD : va_D A (mW k a (1, zC r, zW r, zG r, zP r, zS r, zH r, zR r, zO r, zD r, zL r)) := hD
    refine lv_if_ne hx hb d_M_write_22 rfl (fun _ => ?_) (fun h9 => absurd h9 (by decide))
    exact W.vret hx hb hr (fun t ht hW => ⟨⟨(1, zC r, zW r, zG r, zP r, zS r, zH r, zR r, zO r, zD r, zL r), rfl, by unfold zWrite; rw [hq]; first | done | rfl, by show va_P (dC, dI) vwC _ t.heap; rw [ht]; exact hP⟩, hS.F ht⟩) hS.2.2 d_M_write_67
  | some j =>
    obtain ⟨hj, htj⟩ := ix_some (by decide) hq
    subst htj
    cases hy : ix 32 kk with
    | none =>
      refine lv_aload_n hx hb d_M_write_0 rfl (lv_at hl 0 rfl) ?_
      refine lv_iconst (v := 0) hx hb d_M_write_1 (by decide) ?_
      refine va_put (D := (dC, dI)) (ci := 2) (v := .int 0) (ty := .int) (C := R_M) (T := F_M) (N := 11) hx hb hB in_M tf_M ty_M nm_M hown hK hP hD hS 0 rfl rfl 0 (by decide) (hB _ bw_355) (fun _ h9 => h9) rfl (by decide +kernel) rfl rfl (Nat.le_of_ble_eq_true rfl) d_M_write_2 (fun H locs hP hD hS => ?_)
      have hP : va_P (dC, dI) vwC (mW k a (0, zC r, zW r, zG r, zP r, zS r, zH r, zR r, zO r, zD r, zL r)) H := hP
      have hD : va_D A (mW k a (0, zC r, zW r, zG r, zP r, zS r, zH r, zR r, zO r, zD r, zL r)) := hD
      refine lv_aload_n hx hb d_M_write_5 rfl (lv_at hl 0 rfl) ?_
      refine lv_iload_n hx hb d_M_write_6 rfl (lv_at hl 1 rfl) ?_
      refine vp_callSi (va_Run.run (va_runS (As := [.int (nI j)]) (rest := [.ref (a 0)]) ⟨hx, hb, hml, hown, hB⟩ (m_M_isOne l (nI j)) (va_cwS 1 hB (BIG_SS bw_387 bw_388 bw_18 bw_389) rfl rfl rfl ⟨by decide, by decide, by decide +kernel⟩ ⟨Nat.le_of_ble_eq_true rfl, Nat.le_of_ble_eq_true rfl⟩) preEq rfl rfl hl.1 rfl (lv_room (Nat.le_of_ble_eq_true rfl)) d_M_write_7 ⟨Nat.zero_le _, Nat.zero_le _⟩)) (fun r7 hr7 => ?_)
      refine W.eq (g2 := F0 m 10 ls [.int (bI true), .ref (a 0)]) (by rw [hr7, hq]; rfl) ?_
      refine lv_if_ne hx hb d_M_write_10 rfl (fun _ => ?_) (fun h9 => absurd h9 (by decide))
      refine lv_iconst (v := bI false) hx hb d_M_write_17 (by decide) ?_
      refine lv_iconst (v := 1) hx hb d_M_write_18 (by decide) ?_
      have hFc := va_free (wc := mW k a (0, zC r, zW r, zG r, zP r, zS r, zH r, zR r, zO r, zD r, zL r)) hD hS hA [0, 1, 2, 3, 4, 5, 6, 7, 8] rfl
      refine va_calli (va_runV (As := [.int (bI false), .int 1]) (rest := []) ⟨hx, hb, hml, hown, hB⟩ (m_M_fails_f l dC dI k a _ (0, zC r, zW r, zG r, zP r, zS r, zH r, zR r, zO r, zD r, zL r) 1 rfl) (cwV 2 hB (BIG_V bw_394 bw_395 bw_10 bw_18 bw_396) rfl rfl rfl ⟨rfl, by decide, by decide, by decide +kernel⟩ ⟨Nat.le_of_ble_eq_true rfl, Nat.le_of_ble_eq_true rfl⟩) (mPc_pre _ hP hK hD) rfl rfl hl.1 rfl (lv_room (Nat.le_of_ble_eq_true rfl)) d_M_write_19 ⟨Nat.zero_le _, Nat.zero_le _⟩) hS (fun q _ h => hFc q h) hFc (fun r7 u t H1 locs ht hvm hw hB1 hz1 hk1 hS => ?_)
      obtain ⟨hw1, hw2⟩ := hw
      subst hw1
      subst hw2
      have hP : va_P (dC, dI) vwC (mW k a (0, zC r, zW r, zG r, zP r, zS r, zH r, zR r, zO r, zD r, zL r)) H1 := by rw [← ht]; exact hB1
      have hD : va_D A (mW k a (0, zC r, zW r, zG r, zP r, zS r, zH r, zR r, zO r, zD r, zL r)) := mW_D hDk
      clear hFc hB1 hk1 hz1 ht hvm
      generalize H1 = H at hP hS ⊢
      refine lv_if_ne hx hb d_M_write_22 rfl (fun h9 => absurd h9 (by decide)) (fun _ => ?_)
      refine lv_aload_n hx hb d_M_write_25 rfl (lv_at hl 0 rfl) ?_
      refine lv_iload_n hx hb d_M_write_26 rfl (lv_at hl 2 rfl) ?_
      refine vp_callSi (va_Run.run (va_runS (As := [.int kk]) (rest := [.ref (a 0)]) ⟨hx, hb, hml, hown, hB⟩ (m_M_isCell l kk) (va_cwS 1 hB (BIG_SS bw_404 bw_405 bw_18 bw_406) rfl rfl rfl ⟨by decide, by decide, by decide +kernel⟩ ⟨Nat.le_of_ble_eq_true rfl, Nat.le_of_ble_eq_true rfl⟩) preEq rfl rfl hl.1 rfl (lv_room (Nat.le_of_ble_eq_true rfl)) d_M_write_27 ⟨Nat.zero_le _, Nat.zero_le _⟩)) (fun r7 hr7 => ?_)
      refine W.eq (g2 := F0 m 30 ls [.int (bI false), .ref (a 0)]) (by rw [hr7, hy]; rfl) ?_
      refine lv_if_ne hx hb d_M_write_30 rfl (fun h9 => absurd h9 (by decide)) (fun _ => ?_)
      refine lv_iconst (v := bI true) hx hb d_M_write_33 (by decide) ?_
      refine lv_goto hx hb d_M_write_34 rfl ?_
      refine lv_iconst (v := 2) hx hb d_M_write_38 (by decide) ?_
      have hFc := va_free (wc := mW k a (0, zC r, zW r, zG r, zP r, zS r, zH r, zR r, zO r, zD r, zL r)) hD hS hA [0, 1, 2, 3, 4, 5, 6, 7, 8] rfl
      refine va_calli (va_runV (As := [.int (bI true), .int 2]) (rest := []) ⟨hx, hb, hml, hown, hB⟩ (m_M_fails_t l dC dI k a _ (0, zC r, zW r, zG r, zP r, zS r, zH r, zR r, zO r, zD r, zL r) 2 rfl (by decide)) (cwV 2 hB (BIG_V bw_394 bw_395 bw_10 bw_18 bw_396) rfl rfl rfl ⟨rfl, by decide, by decide, by decide +kernel⟩ ⟨Nat.le_of_ble_eq_true rfl, Nat.le_of_ble_eq_true rfl⟩) (mPc_pre _ hP hK hD) rfl rfl hl.1 rfl (lv_room (Nat.le_of_ble_eq_true rfl)) d_M_write_39 ⟨Nat.zero_le _, Nat.zero_le _⟩) hS (fun q _ h => hFc q h) hFc (fun r7 u t H1 locs ht hvm hw hB1 hz1 hk1 hS => ?_)
      obtain ⟨hw1, hw2⟩ := hw
      subst hw1
      subst hw2
      have hP : va_P (dC, dI) vwC (mW k a (zErr (0, zC r, zW r, zG r, zP r, zS r, zH r, zR r, zO r, zD r, zL r) 2)) H1 := by rw [← ht]; exact hB1
      have hD : va_D A (mW k a (zErr (0, zC r, zW r, zG r, zP r, zS r, zH r, zR r, zO r, zD r, zL r) 2)) := mW_D hDk
      clear hFc hB1 hk1 hz1 ht hvm
      generalize H1 = H at hP hS ⊢
      have hP : va_P (dC, dI) vwC (mW k a (2, zC r, zW r, zG r, zP r, zS r, zH r, zR r, zO r, zD r, zL r)) H := hP
      have hD : va_D A (mW k a (2, zC r, zW r, zG r, zP r, zS r, zH r, zR r, zO r, zD r, zL r)) := hD
      refine lv_if_ne hx hb d_M_write_42 rfl (fun _ => ?_) (fun h9 => absurd h9 (by decide))
      exact W.vret hx hb hr (fun t ht hW => ⟨⟨(2, zC r, zW r, zG r, zP r, zS r, zH r, zR r, zO r, zD r, zL r), rfl, by unfold zWrite; rw [hq]; dsimp only; rw [hy]; first | done | rfl, by show va_P (dC, dI) vwC _ t.heap; rw [ht]; exact hP⟩, hS.F ht⟩) hS.2.2 d_M_write_67
    | some i =>
      obtain ⟨hi, hti⟩ := ix_some (by decide) hy
      subst hti
      cases ho : zO r j with
      | false =>
        refine lv_aload_n hx hb d_M_write_0 rfl (lv_at hl 0 rfl) ?_
        refine lv_iconst (v := 0) hx hb d_M_write_1 (by decide) ?_
        refine va_put (D := (dC, dI)) (ci := 2) (v := .int 0) (ty := .int) (C := R_M) (T := F_M) (N := 11) hx hb hB in_M tf_M ty_M nm_M hown hK hP hD hS 0 rfl rfl 0 (by decide) (hB _ bw_355) (fun _ h9 => h9) rfl (by decide +kernel) rfl rfl (Nat.le_of_ble_eq_true rfl) d_M_write_2 (fun H locs hP hD hS => ?_)
        have hP : va_P (dC, dI) vwC (mW k a (0, zC r, zW r, zG r, zP r, zS r, zH r, zR r, zO r, zD r, zL r)) H := hP
        have hD : va_D A (mW k a (0, zC r, zW r, zG r, zP r, zS r, zH r, zR r, zO r, zD r, zL r)) := hD
        refine lv_aload_n hx hb d_M_write_5 rfl (lv_at hl 0 rfl) ?_
        refine lv_iload_n hx hb d_M_write_6 rfl (lv_at hl 1 rfl) ?_
        refine vp_callSi (va_Run.run (va_runS (As := [.int (nI j)]) (rest := [.ref (a 0)]) ⟨hx, hb, hml, hown, hB⟩ (m_M_isOne l (nI j)) (va_cwS 1 hB (BIG_SS bw_387 bw_388 bw_18 bw_389) rfl rfl rfl ⟨by decide, by decide, by decide +kernel⟩ ⟨Nat.le_of_ble_eq_true rfl, Nat.le_of_ble_eq_true rfl⟩) preEq rfl rfl hl.1 rfl (lv_room (Nat.le_of_ble_eq_true rfl)) d_M_write_7 ⟨Nat.zero_le _, Nat.zero_le _⟩)) (fun r7 hr7 => ?_)
        refine W.eq (g2 := F0 m 10 ls [.int (bI true), .ref (a 0)]) (by rw [hr7, hq]; rfl) ?_
        refine lv_if_ne hx hb d_M_write_10 rfl (fun _ => ?_) (fun h9 => absurd h9 (by decide))
        refine lv_iconst (v := bI false) hx hb d_M_write_17 (by decide) ?_
        refine lv_iconst (v := 1) hx hb d_M_write_18 (by decide) ?_
        have hFc := va_free (wc := mW k a (0, zC r, zW r, zG r, zP r, zS r, zH r, zR r, zO r, zD r, zL r)) hD hS hA [0, 1, 2, 3, 4, 5, 6, 7, 8] rfl
        refine va_calli (va_runV (As := [.int (bI false), .int 1]) (rest := []) ⟨hx, hb, hml, hown, hB⟩ (m_M_fails_f l dC dI k a _ (0, zC r, zW r, zG r, zP r, zS r, zH r, zR r, zO r, zD r, zL r) 1 rfl) (cwV 2 hB (BIG_V bw_394 bw_395 bw_10 bw_18 bw_396) rfl rfl rfl ⟨rfl, by decide, by decide, by decide +kernel⟩ ⟨Nat.le_of_ble_eq_true rfl, Nat.le_of_ble_eq_true rfl⟩) (mPc_pre _ hP hK hD) rfl rfl hl.1 rfl (lv_room (Nat.le_of_ble_eq_true rfl)) d_M_write_19 ⟨Nat.zero_le _, Nat.zero_le _⟩) hS (fun q _ h => hFc q h) hFc (fun r7 u t H1 locs ht hvm hw hB1 hz1 hk1 hS => ?_)
        obtain ⟨hw1, hw2⟩ := hw
        subst hw1
        subst hw2
        have hP : va_P (dC, dI) vwC (mW k a (0, zC r, zW r, zG r, zP r, zS r, zH r, zR r, zO r, zD r, zL r)) H1 := by rw [← ht]; exact hB1
        have hD : va_D A (mW k a (0, zC r, zW r, zG r, zP r, zS r, zH r, zR r, zO r, zD r, zL r)) := mW_D hDk
        clear hFc hB1 hk1 hz1 ht hvm
        generalize H1 = H at hP hS ⊢
        refine lv_if_ne hx hb d_M_write_22 rfl (fun h9 => absurd h9 (by decide)) (fun _ => ?_)
        refine lv_aload_n hx hb d_M_write_25 rfl (lv_at hl 0 rfl) ?_
        refine lv_iload_n hx hb d_M_write_26 rfl (lv_at hl 2 rfl) ?_
        refine vp_callSi (va_Run.run (va_runS (As := [.int (nI i)]) (rest := [.ref (a 0)]) ⟨hx, hb, hml, hown, hB⟩ (m_M_isCell l (nI i)) (va_cwS 1 hB (BIG_SS bw_404 bw_405 bw_18 bw_406) rfl rfl rfl ⟨by decide, by decide, by decide +kernel⟩ ⟨Nat.le_of_ble_eq_true rfl, Nat.le_of_ble_eq_true rfl⟩) preEq rfl rfl hl.1 rfl (lv_room (Nat.le_of_ble_eq_true rfl)) d_M_write_27 ⟨Nat.zero_le _, Nat.zero_le _⟩)) (fun r7 hr7 => ?_)
        refine W.eq (g2 := F0 m 30 ls [.int (bI true), .ref (a 0)]) (by rw [hr7, hy]; rfl) ?_
        refine lv_if_ne hx hb d_M_write_30 rfl (fun _ => ?_) (fun h9 => absurd h9 (by decide))
        refine lv_iconst (v := bI false) hx hb d_M_write_37 (by decide) ?_
        refine lv_iconst (v := 2) hx hb d_M_write_38 (by decide) ?_
        have hFc := va_free (wc := mW k a (0, zC r, zW r, zG r, zP r, zS r, zH r, zR r, zO r, zD r, zL r)) hD hS hA [0, 1, 2, 3, 4, 5, 6, 7, 8] rfl
        refine va_calli (va_runV (As := [.int (bI false), .int 2]) (rest := []) ⟨hx, hb, hml, hown, hB⟩ (m_M_fails_f l dC dI k a _ (0, zC r, zW r, zG r, zP r, zS r, zH r, zR r, zO r, zD r, zL r) 2 rfl) (cwV 2 hB (BIG_V bw_394 bw_395 bw_10 bw_18 bw_396) rfl rfl rfl ⟨rfl, by decide, by decide, by decide +kernel⟩ ⟨Nat.le_of_ble_eq_true rfl, Nat.le_of_ble_eq_true rfl⟩) (mPc_pre _ hP hK hD) rfl rfl hl.1 rfl (lv_room (Nat.le_of_ble_eq_true rfl)) d_M_write_39 ⟨Nat.zero_le _, Nat.zero_le _⟩) hS (fun q _ h => hFc q h) hFc (fun r7 u t H1 locs ht hvm hw hB1 hz1 hk1 hS => ?_)
        obtain ⟨hw1, hw2⟩ := hw
        subst hw1
        subst hw2
        have hP : va_P (dC, dI) vwC (mW k a (0, zC r, zW r, zG r, zP r, zS r, zH r, zR r, zO r, zD r, zL r)) H1 := by rw [← ht]; exact hB1
        have hD : va_D A (mW k a (0, zC r, zW r, zG r, zP r, zS r, zH r, zR r, zO r, zD r, zL r)) := mW_D hDk
        clear hFc hB1 hk1 hz1 ht hvm
        generalize H1 = H at hP hS ⊢
        refine lv_if_ne hx hb d_M_write_42 rfl (fun h9 => absurd h9 (by decide)) (fun _ => ?_)
        refine lv_aload_n hx hb d_M_write_45 rfl (lv_at hl 0 rfl) ?_
        refine lv_aload_n hx hb d_M_write_46 rfl (lv_at hl 0 rfl) ?_
        refine va_get (D := (dC, dI)) (ci := 2) (v := .ref (a 8)) (C := R_M) (T := F_M) (N := 11) hx hb hB in_M hown hK hP 0 rfl rfl 8 (by decide) (hB _ bw_363) (fun _ h9 => h9) rfl d_M_write_47 ?_
        refine lv_iload_n hx hb d_M_write_50 rfl (lv_at hl 1 rfl) ?_
        refine va_zald hx hb hK hP 8 4 rfl rfl (pk_in j 8 (by omega)) d_M_write_51 ?_
        refine W.eq (g2 := F0 m 52 ls [.int (bI (zO r j)), .ref (a 0)]) (by rw [cl_nI (by omega)]) ?_
        refine W.eq (g2 := F0 m 52 ls [.int (bI false), .ref (a 0)]) (by rw [ho]) ?_
        refine lv_if_ne hx hb d_M_write_52 rfl (fun h9 => absurd h9 (by decide)) (fun _ => ?_)
        refine lv_iconst (v := bI true) hx hb d_M_write_55 (by decide) ?_
        refine lv_goto hx hb d_M_write_56 rfl ?_
        refine lv_iconst (v := 3) hx hb d_M_write_60 (by decide) ?_
        have hFc := va_free (wc := mW k a (0, zC r, zW r, zG r, zP r, zS r, zH r, zR r, zO r, zD r, zL r)) hD hS hA [0, 1, 2, 3, 4, 5, 6, 7, 8] rfl
        refine va_calli (va_runV (As := [.int (bI true), .int 3]) (rest := []) ⟨hx, hb, hml, hown, hB⟩ (m_M_fails_t l dC dI k a _ (0, zC r, zW r, zG r, zP r, zS r, zH r, zR r, zO r, zD r, zL r) 3 rfl (by decide)) (cwV 2 hB (BIG_V bw_394 bw_395 bw_10 bw_18 bw_396) rfl rfl rfl ⟨rfl, by decide, by decide, by decide +kernel⟩ ⟨Nat.le_of_ble_eq_true rfl, Nat.le_of_ble_eq_true rfl⟩) (mPc_pre _ hP hK hD) rfl rfl hl.1 rfl (lv_room (Nat.le_of_ble_eq_true rfl)) d_M_write_61 ⟨Nat.zero_le _, Nat.zero_le _⟩) hS (fun q _ h => hFc q h) hFc (fun r7 u t H1 locs ht hvm hw hB1 hz1 hk1 hS => ?_)
        obtain ⟨hw1, hw2⟩ := hw
        subst hw1
        subst hw2
        have hP : va_P (dC, dI) vwC (mW k a (zErr (0, zC r, zW r, zG r, zP r, zS r, zH r, zR r, zO r, zD r, zL r) 3)) H1 := by rw [← ht]; exact hB1
        have hD : va_D A (mW k a (zErr (0, zC r, zW r, zG r, zP r, zS r, zH r, zR r, zO r, zD r, zL r) 3)) := mW_D hDk
        clear hFc hB1 hk1 hz1 ht hvm
        generalize H1 = H at hP hS ⊢
        have hP : va_P (dC, dI) vwC (mW k a (3, zC r, zW r, zG r, zP r, zS r, zH r, zR r, zO r, zD r, zL r)) H := hP
        have hD : va_D A (mW k a (3, zC r, zW r, zG r, zP r, zS r, zH r, zR r, zO r, zD r, zL r)) := hD
        refine lv_if_eq hx hb d_M_write_64 rfl (fun h9 => absurd h9 (by decide)) (fun _ => ?_)
        exact W.vret hx hb hr (fun t ht hW => ⟨⟨(3, zC r, zW r, zG r, zP r, zS r, zH r, zR r, zO r, zD r, zL r), rfl, by unfold zWrite; rw [hq]; dsimp only; rw [hy]; dsimp only; rw [if_pos ho]; first | done | rfl, by show va_P (dC, dI) vwC _ t.heap; rw [ht]; exact hP⟩, hS.F ht⟩) hS.2.2 d_M_write_67
      | true =>
        obtain ⟨hp1, hp5⟩ := hok j hj ho
        have hat : zAt r j i < 1280 := by unfold zAt; omega
        refine lv_aload_n hx hb d_M_write_0 rfl (lv_at hl 0 rfl) ?_
        refine lv_iconst (v := 0) hx hb d_M_write_1 (by decide) ?_
        refine va_put (D := (dC, dI)) (ci := 2) (v := .int 0) (ty := .int) (C := R_M) (T := F_M) (N := 11) hx hb hB in_M tf_M ty_M nm_M hown hK hP hD hS 0 rfl rfl 0 (by decide) (hB _ bw_355) (fun _ h9 => h9) rfl (by decide +kernel) rfl rfl (Nat.le_of_ble_eq_true rfl) d_M_write_2 (fun H locs hP hD hS => ?_)
        have hP : va_P (dC, dI) vwC (mW k a (0, zC r, zW r, zG r, zP r, zS r, zH r, zR r, zO r, zD r, zL r)) H := hP
        have hD : va_D A (mW k a (0, zC r, zW r, zG r, zP r, zS r, zH r, zR r, zO r, zD r, zL r)) := hD
        refine lv_aload_n hx hb d_M_write_5 rfl (lv_at hl 0 rfl) ?_
        refine lv_iload_n hx hb d_M_write_6 rfl (lv_at hl 1 rfl) ?_
        refine vp_callSi (va_Run.run (va_runS (As := [.int (nI j)]) (rest := [.ref (a 0)]) ⟨hx, hb, hml, hown, hB⟩ (m_M_isOne l (nI j)) (va_cwS 1 hB (BIG_SS bw_387 bw_388 bw_18 bw_389) rfl rfl rfl ⟨by decide, by decide, by decide +kernel⟩ ⟨Nat.le_of_ble_eq_true rfl, Nat.le_of_ble_eq_true rfl⟩) preEq rfl rfl hl.1 rfl (lv_room (Nat.le_of_ble_eq_true rfl)) d_M_write_7 ⟨Nat.zero_le _, Nat.zero_le _⟩)) (fun r7 hr7 => ?_)
        refine W.eq (g2 := F0 m 10 ls [.int (bI true), .ref (a 0)]) (by rw [hr7, hq]; rfl) ?_
        refine lv_if_ne hx hb d_M_write_10 rfl (fun _ => ?_) (fun h9 => absurd h9 (by decide))
        refine lv_iconst (v := bI false) hx hb d_M_write_17 (by decide) ?_
        refine lv_iconst (v := 1) hx hb d_M_write_18 (by decide) ?_
        have hFc := va_free (wc := mW k a (0, zC r, zW r, zG r, zP r, zS r, zH r, zR r, zO r, zD r, zL r)) hD hS hA [0, 1, 2, 3, 4, 5, 6, 7, 8] rfl
        refine va_calli (va_runV (As := [.int (bI false), .int 1]) (rest := []) ⟨hx, hb, hml, hown, hB⟩ (m_M_fails_f l dC dI k a _ (0, zC r, zW r, zG r, zP r, zS r, zH r, zR r, zO r, zD r, zL r) 1 rfl) (cwV 2 hB (BIG_V bw_394 bw_395 bw_10 bw_18 bw_396) rfl rfl rfl ⟨rfl, by decide, by decide, by decide +kernel⟩ ⟨Nat.le_of_ble_eq_true rfl, Nat.le_of_ble_eq_true rfl⟩) (mPc_pre _ hP hK hD) rfl rfl hl.1 rfl (lv_room (Nat.le_of_ble_eq_true rfl)) d_M_write_19 ⟨Nat.zero_le _, Nat.zero_le _⟩) hS (fun q _ h => hFc q h) hFc (fun r7 u t H1 locs ht hvm hw hB1 hz1 hk1 hS => ?_)
        obtain ⟨hw1, hw2⟩ := hw
        subst hw1
        subst hw2
        have hP : va_P (dC, dI) vwC (mW k a (0, zC r, zW r, zG r, zP r, zS r, zH r, zR r, zO r, zD r, zL r)) H1 := by rw [← ht]; exact hB1
        have hD : va_D A (mW k a (0, zC r, zW r, zG r, zP r, zS r, zH r, zR r, zO r, zD r, zL r)) := mW_D hDk
        clear hFc hB1 hk1 hz1 ht hvm
        generalize H1 = H at hP hS ⊢
        refine lv_if_ne hx hb d_M_write_22 rfl (fun h9 => absurd h9 (by decide)) (fun _ => ?_)
        refine lv_aload_n hx hb d_M_write_25 rfl (lv_at hl 0 rfl) ?_
        refine lv_iload_n hx hb d_M_write_26 rfl (lv_at hl 2 rfl) ?_
        refine vp_callSi (va_Run.run (va_runS (As := [.int (nI i)]) (rest := [.ref (a 0)]) ⟨hx, hb, hml, hown, hB⟩ (m_M_isCell l (nI i)) (va_cwS 1 hB (BIG_SS bw_404 bw_405 bw_18 bw_406) rfl rfl rfl ⟨by decide, by decide, by decide +kernel⟩ ⟨Nat.le_of_ble_eq_true rfl, Nat.le_of_ble_eq_true rfl⟩) preEq rfl rfl hl.1 rfl (lv_room (Nat.le_of_ble_eq_true rfl)) d_M_write_27 ⟨Nat.zero_le _, Nat.zero_le _⟩)) (fun r7 hr7 => ?_)
        refine W.eq (g2 := F0 m 30 ls [.int (bI true), .ref (a 0)]) (by rw [hr7, hy]; rfl) ?_
        refine lv_if_ne hx hb d_M_write_30 rfl (fun _ => ?_) (fun h9 => absurd h9 (by decide))
        refine lv_iconst (v := bI false) hx hb d_M_write_37 (by decide) ?_
        refine lv_iconst (v := 2) hx hb d_M_write_38 (by decide) ?_
        have hFc := va_free (wc := mW k a (0, zC r, zW r, zG r, zP r, zS r, zH r, zR r, zO r, zD r, zL r)) hD hS hA [0, 1, 2, 3, 4, 5, 6, 7, 8] rfl
        refine va_calli (va_runV (As := [.int (bI false), .int 2]) (rest := []) ⟨hx, hb, hml, hown, hB⟩ (m_M_fails_f l dC dI k a _ (0, zC r, zW r, zG r, zP r, zS r, zH r, zR r, zO r, zD r, zL r) 2 rfl) (cwV 2 hB (BIG_V bw_394 bw_395 bw_10 bw_18 bw_396) rfl rfl rfl ⟨rfl, by decide, by decide, by decide +kernel⟩ ⟨Nat.le_of_ble_eq_true rfl, Nat.le_of_ble_eq_true rfl⟩) (mPc_pre _ hP hK hD) rfl rfl hl.1 rfl (lv_room (Nat.le_of_ble_eq_true rfl)) d_M_write_39 ⟨Nat.zero_le _, Nat.zero_le _⟩) hS (fun q _ h => hFc q h) hFc (fun r7 u t H1 locs ht hvm hw hB1 hz1 hk1 hS => ?_)
        obtain ⟨hw1, hw2⟩ := hw
        subst hw1
        subst hw2
        have hP : va_P (dC, dI) vwC (mW k a (0, zC r, zW r, zG r, zP r, zS r, zH r, zR r, zO r, zD r, zL r)) H1 := by rw [← ht]; exact hB1
        have hD : va_D A (mW k a (0, zC r, zW r, zG r, zP r, zS r, zH r, zR r, zO r, zD r, zL r)) := mW_D hDk
        clear hFc hB1 hk1 hz1 ht hvm
        generalize H1 = H at hP hS ⊢
        refine lv_if_ne hx hb d_M_write_42 rfl (fun h9 => absurd h9 (by decide)) (fun _ => ?_)
        refine lv_aload_n hx hb d_M_write_45 rfl (lv_at hl 0 rfl) ?_
        refine lv_aload_n hx hb d_M_write_46 rfl (lv_at hl 0 rfl) ?_
        refine va_get (D := (dC, dI)) (ci := 2) (v := .ref (a 8)) (C := R_M) (T := F_M) (N := 11) hx hb hB in_M hown hK hP 0 rfl rfl 8 (by decide) (hB _ bw_363) (fun _ h9 => h9) rfl d_M_write_47 ?_
        refine lv_iload_n hx hb d_M_write_50 rfl (lv_at hl 1 rfl) ?_
        refine va_zald hx hb hK hP 8 4 rfl rfl (pk_in j 8 (by omega)) d_M_write_51 ?_
        refine W.eq (g2 := F0 m 52 ls [.int (bI (zO r j)), .ref (a 0)]) (by rw [cl_nI (by omega)]) ?_
        refine W.eq (g2 := F0 m 52 ls [.int (bI true), .ref (a 0)]) (by rw [ho]) ?_
        refine lv_if_ne hx hb d_M_write_52 rfl (fun _ => ?_) (fun h9 => absurd h9 (by decide))
        refine lv_iconst (v := bI false) hx hb d_M_write_59 (by decide) ?_
        refine lv_iconst (v := 3) hx hb d_M_write_60 (by decide) ?_
        have hFc := va_free (wc := mW k a (0, zC r, zW r, zG r, zP r, zS r, zH r, zR r, zO r, zD r, zL r)) hD hS hA [0, 1, 2, 3, 4, 5, 6, 7, 8] rfl
        refine va_calli (va_runV (As := [.int (bI false), .int 3]) (rest := []) ⟨hx, hb, hml, hown, hB⟩ (m_M_fails_f l dC dI k a _ (0, zC r, zW r, zG r, zP r, zS r, zH r, zR r, zO r, zD r, zL r) 3 rfl) (cwV 2 hB (BIG_V bw_394 bw_395 bw_10 bw_18 bw_396) rfl rfl rfl ⟨rfl, by decide, by decide, by decide +kernel⟩ ⟨Nat.le_of_ble_eq_true rfl, Nat.le_of_ble_eq_true rfl⟩) (mPc_pre _ hP hK hD) rfl rfl hl.1 rfl (lv_room (Nat.le_of_ble_eq_true rfl)) d_M_write_61 ⟨Nat.zero_le _, Nat.zero_le _⟩) hS (fun q _ h => hFc q h) hFc (fun r7 u t H1 locs ht hvm hw hB1 hz1 hk1 hS => ?_)
        obtain ⟨hw1, hw2⟩ := hw
        subst hw1
        subst hw2
        have hP : va_P (dC, dI) vwC (mW k a (0, zC r, zW r, zG r, zP r, zS r, zH r, zR r, zO r, zD r, zL r)) H1 := by rw [← ht]; exact hB1
        have hD : va_D A (mW k a (0, zC r, zW r, zG r, zP r, zS r, zH r, zR r, zO r, zD r, zL r)) := mW_D hDk
        clear hFc hB1 hk1 hz1 ht hvm
        generalize H1 = H at hP hS ⊢
        refine lv_if_eq hx hb d_M_write_64 rfl (fun _ => ?_) (fun h9 => absurd (by decide) h9)
        refine lv_aload_n hx hb d_M_write_68 rfl (lv_at hl 0 rfl) ?_
        refine va_get (D := (dC, dI)) (ci := 2) (v := .ref (a 6)) (C := R_M) (T := F_M) (N := 11) hx hb hB in_M hown hK hP 0 rfl rfl 6 (by decide) (hB _ bw_361) (fun _ h9 => h9) rfl d_M_write_69 ?_
        refine lv_aload_n hx hb d_M_write_72 rfl (lv_at hl 0 rfl) ?_
        refine lv_iload_n hx hb d_M_write_73 rfl (lv_at hl 1 rfl) ?_
        refine lv_iload_n hx hb d_M_write_74 rfl (lv_at hl 2 rfl) ?_
        refine vp_callSi (va_Run.run (va_runV (As := [.int (nI j), .int (nI i)]) (rest := [.ref (a 6)]) ⟨hx, hb, hml, hown, hB⟩ (m_M_last l dC dI k a (0, zC r, zW r, zG r, zP r, zS r, zH r, zR r, zO r, zD r, zL r) j i (by omega) (by omega) hp1 hp5) (cwV 2 hB (BIG_V bw_397 bw_398 bw_11 bw_18 bw_399) rfl rfl rfl ⟨rfl, by decide, by decide, by decide +kernel⟩ ⟨Nat.le_of_ble_eq_true rfl, Nat.le_of_ble_eq_true rfl⟩) (mRc_pre _ hP hK) rfl rfl hl.1 rfl (lv_room (Nat.le_of_ble_eq_true rfl)) d_M_write_75 ⟨Nat.zero_le _, Nat.zero_le _⟩)) (fun r7 hr7 => ?_)
        refine W.eq (g2 := F0 m 78 ls [.int (nI (zAt r j i)), .ref (a 6)]) (by rw [hr7]; rfl) ?_
        refine lv_iconst (v := bI true) hx hb d_M_write_78 (by decide) ?_
        refine va_zast hx hb hK hP hD hS 6 4 rfl rfl (pk_in (zAt r j i) 1280 (by omega)) d_M_write_79 (fun H locs hP hD hS => ?_)
        rw [cl_nI (by omega), bI_upd] at hP
        have hP : va_P (dC, dI) vwC (mW k a (0, zC r, zW r, zG r, zP r, zS r, va_up (zH r) (zAt r j i) true, zR r, zO r, zD r, zL r)) H := hP
        have hD : va_D A (mW k a (0, zC r, zW r, zG r, zP r, zS r, va_up (zH r) (zAt r j i) true, zR r, zO r, zD r, zL r)) := mW_D hDk
        refine lv_aload_n hx hb d_M_write_80 rfl (lv_at hl 0 rfl) ?_
        refine va_get (D := (dC, dI)) (ci := 2) (v := .ref (a 2)) (C := R_M) (T := F_M) (N := 11) hx hb hB in_M hown hK hP 0 rfl rfl 2 (by decide) (hB _ bw_357) (fun _ h9 => h9) rfl d_M_write_81 ?_
        refine lv_aload_n hx hb d_M_write_84 rfl (lv_at hl 0 rfl) ?_
        refine lv_iload_n hx hb d_M_write_85 rfl (lv_at hl 1 rfl) ?_
        refine lv_iload_n hx hb d_M_write_86 rfl (lv_at hl 2 rfl) ?_
        refine vp_callSi (va_Run.run (va_runV (As := [.int (nI j), .int (nI i)]) (rest := [.ref (a 2)]) ⟨hx, hb, hml, hown, hB⟩ (m_M_last l dC dI k a (0, zC r, zW r, zG r, zP r, zS r, va_up (zH r) (zAt r j i) true, zR r, zO r, zD r, zL r) j i (by omega) (by omega) hp1 hp5) (cwV 2 hB (BIG_V bw_397 bw_398 bw_11 bw_18 bw_399) rfl rfl rfl ⟨rfl, by decide, by decide, by decide +kernel⟩ ⟨Nat.le_of_ble_eq_true rfl, Nat.le_of_ble_eq_true rfl⟩) (mRc_pre _ hP hK) rfl rfl hl.1 rfl (lv_room (Nat.le_of_ble_eq_true rfl)) d_M_write_87 ⟨Nat.zero_le _, Nat.zero_le _⟩)) (fun r7 hr7 => ?_)
        refine W.eq (g2 := F0 m 90 ls [.int (nI (zAt r j i)), .ref (a 2)]) (by rw [hr7]; rfl) ?_
        refine lv_lload_n hx hb d_M_write_90 rfl (lv_at hl 3 rfl) ?_
        refine va_last hx hb hK hP hD hS 2 1 rfl rfl (pk_in (zAt r j i) 1280 (by omega)) d_M_write_91 (fun H locs hP hD hS => ?_)
        rw [cl_nI (by omega)] at hP
        have hP : va_P (dC, dI) vwC (mW k a (0, zC r, vp_updL (zW r) (zAt r j i) x, zG r, zP r, zS r, va_up (zH r) (zAt r j i) true, zR r, zO r, zD r, zL r)) H := hP
        have hD : va_D A (mW k a (0, zC r, vp_updL (zW r) (zAt r j i) x, zG r, zP r, zS r, va_up (zH r) (zAt r j i) true, zR r, zO r, zD r, zL r)) := mW_D hDk
        exact W.vret hx hb hr (fun t ht hW => ⟨⟨(0, zC r, vp_updL (zW r) (zAt r j i) x, zG r, zP r, zS r, va_up (zH r) (zAt r j i) true, zR r, zO r, zD r, zL r), rfl, by unfold zWrite; rw [hq]; dsimp only; rw [hy]; dsimp only; rw [if_neg (by rw [ho]; decide)]; first | done | rfl, by show va_P (dC, dI) vwC _ t.heap; rw [ht]; exact hP⟩, hS.F ht⟩) hS.2.2 d_M_write_92
set_option maxHeartbeats 4000000 in
set_option maxRecDepth 100000 in
theorem m_M_save (l : Launch) (dC : Nat → ClassId) (dI : Nat → Nat → Nat) (k : Nat → ClassId) (a : Nat → Nat) (sz : Nat) (r : xRS) (tt : Int32) (hok : mOk r) : Met l y_M_save w_M_save (rmx 2 0 0 80) (mPc dC dI k a sz r [.ref (a 0), .int tt]) (va_Qi (fun o u => (o, u) = zSave r tt) (mB dC dI k a) (va_A (mW k a r) sz)) 0 0 (va_A (mW k a r) sz) := by
  refine Met.ofW (cc := c_M_save) (maxL := 2) (ret := (some .int)) (by decide) rfl ?_
  intro p e s m args below meth c s₁ B hml hv
  obtain ⟨rfl, hsz, hP, hK, hD0⟩ := hv
  have hx := B.exec
  have hb := B.bytes
  have hr := B.returns
  have hts := atoms_spec (ws := w_M_save) B.pre
  have hB : ∀ w ∈ BIG, w.before _ s = true := fun w h => hts w (List.mem_cons_of_mem _ h)
  have hown : s.vm.findClass R_M = some m.cls := findClass_of_methodNamed B.named
  have hlocks := B.notSynchronized
  have hl := lv_entry ([.ref (a 0), .int tt]) (n := 2) (Nat.le_of_ble_eq_true rfl)
  rw [lg_entry_eq]
  generalize (lg_sl ([.ref (a 0), .int tt]) ++ List.replicate (2 - (lg_sl ([.ref (a 0), .int tt])).length) Slot.unset).toArray = ls at hl ⊢
  have hl : lv_has ls 2 [(0, .ref (a 0)), (1, .int tt)] := hl
  subst hsz
  have hD := hD0.self (sz := s.heap.size)
  generalize hAe : va_A (mW k a r) s.heap.size = A at hD ⊢
  have hA : ∀ q : Nat, s.heap.size ≤ q → A q := fun q h => by rw [← hAe]; exact Or.inr h
  have hS : va_S A s.heap s.heap [] := va_S.rf
  have hDk := hD
  cases hq : ix 8 tt with
  | none =>
    refine lv_aload_n hx hb d_M_save_0 rfl (lv_at hl 0 rfl) ?_
    refine lv_iconst (v := 0) hx hb d_M_save_1 (by decide) ?_
    refine va_put (D := (dC, dI)) (ci := 2) (v := .int 0) (ty := .int) (C := R_M) (T := F_M) (N := 11) hx hb hB in_M tf_M ty_M nm_M hown hK hP hD hS 0 rfl rfl 0 (by decide) (hB _ bw_355) (fun _ h9 => h9) rfl (by decide +kernel) rfl rfl (Nat.le_of_ble_eq_true rfl) d_M_save_2 (fun H locs hP hD hS => ?_)
    have hP : va_P (dC, dI) vwC (mW k a (0, zC r, zW r, zG r, zP r, zS r, zH r, zR r, zO r, zD r, zL r)) H := hP
    have hD : va_D A (mW k a (0, zC r, zW r, zG r, zP r, zS r, zH r, zR r, zO r, zD r, zL r)) := hD
    refine lv_aload_n hx hb d_M_save_5 rfl (lv_at hl 0 rfl) ?_
    refine lv_iload_n hx hb d_M_save_6 rfl (lv_at hl 1 rfl) ?_
    refine vp_callSi (va_Run.run (va_runS (As := [.int tt]) (rest := [.ref (a 0)]) ⟨hx, hb, hml, hown, hB⟩ (m_M_isOne l tt) (va_cwS 1 hB (BIG_SS bw_387 bw_388 bw_18 bw_389) rfl rfl rfl ⟨by decide, by decide, by decide +kernel⟩ ⟨Nat.le_of_ble_eq_true rfl, Nat.le_of_ble_eq_true rfl⟩) preEq rfl rfl hl.1 rfl (lv_room (Nat.le_of_ble_eq_true rfl)) d_M_save_7 ⟨Nat.zero_le _, Nat.zero_le _⟩)) (fun r7 hr7 => ?_)
    refine W.eq (g2 := F0 m 10 ls [.int (bI false), .ref (a 0)]) (by rw [hr7, hq]; rfl) ?_
    refine lv_if_ne hx hb d_M_save_10 rfl (fun h9 => absurd h9 (by decide)) (fun _ => ?_)
    refine lv_iconst (v := bI true) hx hb d_M_save_13 (by decide) ?_
    refine lv_goto hx hb d_M_save_14 rfl ?_
    refine lv_iconst (v := 1) hx hb d_M_save_18 (by decide) ?_
    have hFc := va_free (wc := mW k a (0, zC r, zW r, zG r, zP r, zS r, zH r, zR r, zO r, zD r, zL r)) hD hS hA [0, 1, 2, 3, 4, 5, 6, 7, 8] rfl
    refine va_calli (va_runV (As := [.int (bI true), .int 1]) (rest := []) ⟨hx, hb, hml, hown, hB⟩ (m_M_fails_t l dC dI k a _ (0, zC r, zW r, zG r, zP r, zS r, zH r, zR r, zO r, zD r, zL r) 1 rfl (by decide)) (cwV 2 hB (BIG_V bw_394 bw_395 bw_10 bw_18 bw_396) rfl rfl rfl ⟨rfl, by decide, by decide, by decide +kernel⟩ ⟨Nat.le_of_ble_eq_true rfl, Nat.le_of_ble_eq_true rfl⟩) (mPc_pre _ hP hK hD) rfl rfl hl.1 rfl (lv_room (Nat.le_of_ble_eq_true rfl)) d_M_save_19 ⟨Nat.zero_le _, Nat.zero_le _⟩) hS (fun q _ h => hFc q h) hFc (fun r7 u t H1 locs ht hvm hw hB1 hz1 hk1 hS => ?_)
    obtain ⟨hw1, hw2⟩ := hw
    subst hw1
    subst hw2
    have hP : va_P (dC, dI) vwC (mW k a (zErr (0, zC r, zW r, zG r, zP r, zS r, zH r, zR r, zO r, zD r, zL r) 1)) H1 := by rw [← ht]; exact hB1
    have hD : va_D A (mW k a (zErr (0, zC r, zW r, zG r, zP r, zS r, zH r, zR r, zO r, zD r, zL r) 1)) := mW_D hDk
    clear hFc hB1 hk1 hz1 ht hvm
    generalize H1 = H at hP hS ⊢
    have hP : va_P (dC, dI) vwC (mW k a (1, zC r, zW r, zG r, zP r, zS r, zH r, zR r, zO r, zD r, zL r)) H := hP
    have hD : va_D A (mW k a (1, zC r, zW r, zG r, zP r, zS r, zH r, zR r, zO r, zD r, zL r)) := hD
    refine lv_if_ne hx hb d_M_save_22 rfl (fun _ => ?_) (fun h9 => absurd h9 (by decide))
    refine lv_iconst (v := 0) hx hb d_M_save_70 (by decide) ?_
    exact W.iret (v := 0) hx hb hr (fun t ht hW => ⟨⟨0, (1, zC r, zW r, zG r, zP r, zS r, zH r, zR r, zO r, zD r, zL r), rfl, by unfold zSave; rw [hq]; first | done | rfl, by show va_P (dC, dI) vwC _ t.heap; rw [ht]; exact hP⟩, hS.F ht⟩) hS.2.2 d_M_save_71
  | some j =>
    obtain ⟨hj, htj⟩ := ix_some (by decide) hq
    subst htj
    cases ho : zO r j with
    | false =>
      refine lv_aload_n hx hb d_M_save_0 rfl (lv_at hl 0 rfl) ?_
      refine lv_iconst (v := 0) hx hb d_M_save_1 (by decide) ?_
      refine va_put (D := (dC, dI)) (ci := 2) (v := .int 0) (ty := .int) (C := R_M) (T := F_M) (N := 11) hx hb hB in_M tf_M ty_M nm_M hown hK hP hD hS 0 rfl rfl 0 (by decide) (hB _ bw_355) (fun _ h9 => h9) rfl (by decide +kernel) rfl rfl (Nat.le_of_ble_eq_true rfl) d_M_save_2 (fun H locs hP hD hS => ?_)
      have hP : va_P (dC, dI) vwC (mW k a (0, zC r, zW r, zG r, zP r, zS r, zH r, zR r, zO r, zD r, zL r)) H := hP
      have hD : va_D A (mW k a (0, zC r, zW r, zG r, zP r, zS r, zH r, zR r, zO r, zD r, zL r)) := hD
      refine lv_aload_n hx hb d_M_save_5 rfl (lv_at hl 0 rfl) ?_
      refine lv_iload_n hx hb d_M_save_6 rfl (lv_at hl 1 rfl) ?_
      refine vp_callSi (va_Run.run (va_runS (As := [.int (nI j)]) (rest := [.ref (a 0)]) ⟨hx, hb, hml, hown, hB⟩ (m_M_isOne l (nI j)) (va_cwS 1 hB (BIG_SS bw_387 bw_388 bw_18 bw_389) rfl rfl rfl ⟨by decide, by decide, by decide +kernel⟩ ⟨Nat.le_of_ble_eq_true rfl, Nat.le_of_ble_eq_true rfl⟩) preEq rfl rfl hl.1 rfl (lv_room (Nat.le_of_ble_eq_true rfl)) d_M_save_7 ⟨Nat.zero_le _, Nat.zero_le _⟩)) (fun r7 hr7 => ?_)
      refine W.eq (g2 := F0 m 10 ls [.int (bI true), .ref (a 0)]) (by rw [hr7, hq]; rfl) ?_
      refine lv_if_ne hx hb d_M_save_10 rfl (fun _ => ?_) (fun h9 => absurd h9 (by decide))
      refine lv_iconst (v := bI false) hx hb d_M_save_17 (by decide) ?_
      refine lv_iconst (v := 1) hx hb d_M_save_18 (by decide) ?_
      have hFc := va_free (wc := mW k a (0, zC r, zW r, zG r, zP r, zS r, zH r, zR r, zO r, zD r, zL r)) hD hS hA [0, 1, 2, 3, 4, 5, 6, 7, 8] rfl
      refine va_calli (va_runV (As := [.int (bI false), .int 1]) (rest := []) ⟨hx, hb, hml, hown, hB⟩ (m_M_fails_f l dC dI k a _ (0, zC r, zW r, zG r, zP r, zS r, zH r, zR r, zO r, zD r, zL r) 1 rfl) (cwV 2 hB (BIG_V bw_394 bw_395 bw_10 bw_18 bw_396) rfl rfl rfl ⟨rfl, by decide, by decide, by decide +kernel⟩ ⟨Nat.le_of_ble_eq_true rfl, Nat.le_of_ble_eq_true rfl⟩) (mPc_pre _ hP hK hD) rfl rfl hl.1 rfl (lv_room (Nat.le_of_ble_eq_true rfl)) d_M_save_19 ⟨Nat.zero_le _, Nat.zero_le _⟩) hS (fun q _ h => hFc q h) hFc (fun r7 u t H1 locs ht hvm hw hB1 hz1 hk1 hS => ?_)
      obtain ⟨hw1, hw2⟩ := hw
      subst hw1
      subst hw2
      have hP : va_P (dC, dI) vwC (mW k a (0, zC r, zW r, zG r, zP r, zS r, zH r, zR r, zO r, zD r, zL r)) H1 := by rw [← ht]; exact hB1
      have hD : va_D A (mW k a (0, zC r, zW r, zG r, zP r, zS r, zH r, zR r, zO r, zD r, zL r)) := mW_D hDk
      clear hFc hB1 hk1 hz1 ht hvm
      generalize H1 = H at hP hS ⊢
      refine lv_if_ne hx hb d_M_save_22 rfl (fun h9 => absurd h9 (by decide)) (fun _ => ?_)
      refine lv_aload_n hx hb d_M_save_25 rfl (lv_at hl 0 rfl) ?_
      refine lv_aload_n hx hb d_M_save_26 rfl (lv_at hl 0 rfl) ?_
      refine va_get (D := (dC, dI)) (ci := 2) (v := .ref (a 8)) (C := R_M) (T := F_M) (N := 11) hx hb hB in_M hown hK hP 0 rfl rfl 8 (by decide) (hB _ bw_363) (fun _ h9 => h9) rfl d_M_save_27 ?_
      refine lv_iload_n hx hb d_M_save_30 rfl (lv_at hl 1 rfl) ?_
      refine va_zald hx hb hK hP 8 4 rfl rfl (pk_in j 8 (by omega)) d_M_save_31 ?_
      refine W.eq (g2 := F0 m 32 ls [.int (bI (zO r j)), .ref (a 0)]) (by rw [cl_nI (by omega)]) ?_
      refine W.eq (g2 := F0 m 32 ls [.int (bI false), .ref (a 0)]) (by rw [ho]) ?_
      refine lv_if_ne hx hb d_M_save_32 rfl (fun h9 => absurd h9 (by decide)) (fun _ => ?_)
      refine lv_iconst (v := bI true) hx hb d_M_save_35 (by decide) ?_
      refine lv_goto hx hb d_M_save_36 rfl ?_
      refine lv_iconst (v := 2) hx hb d_M_save_40 (by decide) ?_
      have hFc := va_free (wc := mW k a (0, zC r, zW r, zG r, zP r, zS r, zH r, zR r, zO r, zD r, zL r)) hD hS hA [0, 1, 2, 3, 4, 5, 6, 7, 8] rfl
      refine va_calli (va_runV (As := [.int (bI true), .int 2]) (rest := []) ⟨hx, hb, hml, hown, hB⟩ (m_M_fails_t l dC dI k a _ (0, zC r, zW r, zG r, zP r, zS r, zH r, zR r, zO r, zD r, zL r) 2 rfl (by decide)) (cwV 2 hB (BIG_V bw_394 bw_395 bw_10 bw_18 bw_396) rfl rfl rfl ⟨rfl, by decide, by decide, by decide +kernel⟩ ⟨Nat.le_of_ble_eq_true rfl, Nat.le_of_ble_eq_true rfl⟩) (mPc_pre _ hP hK hD) rfl rfl hl.1 rfl (lv_room (Nat.le_of_ble_eq_true rfl)) d_M_save_41 ⟨Nat.zero_le _, Nat.zero_le _⟩) hS (fun q _ h => hFc q h) hFc (fun r7 u t H1 locs ht hvm hw hB1 hz1 hk1 hS => ?_)
      obtain ⟨hw1, hw2⟩ := hw
      subst hw1
      subst hw2
      have hP : va_P (dC, dI) vwC (mW k a (zErr (0, zC r, zW r, zG r, zP r, zS r, zH r, zR r, zO r, zD r, zL r) 2)) H1 := by rw [← ht]; exact hB1
      have hD : va_D A (mW k a (zErr (0, zC r, zW r, zG r, zP r, zS r, zH r, zR r, zO r, zD r, zL r) 2)) := mW_D hDk
      clear hFc hB1 hk1 hz1 ht hvm
      generalize H1 = H at hP hS ⊢
      have hP : va_P (dC, dI) vwC (mW k a (2, zC r, zW r, zG r, zP r, zS r, zH r, zR r, zO r, zD r, zL r)) H := hP
      have hD : va_D A (mW k a (2, zC r, zW r, zG r, zP r, zS r, zH r, zR r, zO r, zD r, zL r)) := hD
      refine lv_if_ne hx hb d_M_save_44 rfl (fun _ => ?_) (fun h9 => absurd h9 (by decide))
      refine lv_iconst (v := 0) hx hb d_M_save_70 (by decide) ?_
      exact W.iret (v := 0) hx hb hr (fun t ht hW => ⟨⟨0, (2, zC r, zW r, zG r, zP r, zS r, zH r, zR r, zO r, zD r, zL r), rfl, by unfold zSave; rw [hq]; dsimp only; rw [if_pos ho]; first | done | rfl, by show va_P (dC, dI) vwC _ t.heap; rw [ht]; exact hP⟩, hS.F ht⟩) hS.2.2 d_M_save_71
    | true =>
      obtain ⟨hp1, hp5⟩ := hok j hj ho
      by_cases h1 : zP r j = 5
      · have h2 : nI (zP r j) = nI 5 := by rw [h1]
        refine lv_aload_n hx hb d_M_save_0 rfl (lv_at hl 0 rfl) ?_
        refine lv_iconst (v := 0) hx hb d_M_save_1 (by decide) ?_
        refine va_put (D := (dC, dI)) (ci := 2) (v := .int 0) (ty := .int) (C := R_M) (T := F_M) (N := 11) hx hb hB in_M tf_M ty_M nm_M hown hK hP hD hS 0 rfl rfl 0 (by decide) (hB _ bw_355) (fun _ h9 => h9) rfl (by decide +kernel) rfl rfl (Nat.le_of_ble_eq_true rfl) d_M_save_2 (fun H locs hP hD hS => ?_)
        have hP : va_P (dC, dI) vwC (mW k a (0, zC r, zW r, zG r, zP r, zS r, zH r, zR r, zO r, zD r, zL r)) H := hP
        have hD : va_D A (mW k a (0, zC r, zW r, zG r, zP r, zS r, zH r, zR r, zO r, zD r, zL r)) := hD
        refine lv_aload_n hx hb d_M_save_5 rfl (lv_at hl 0 rfl) ?_
        refine lv_iload_n hx hb d_M_save_6 rfl (lv_at hl 1 rfl) ?_
        refine vp_callSi (va_Run.run (va_runS (As := [.int (nI j)]) (rest := [.ref (a 0)]) ⟨hx, hb, hml, hown, hB⟩ (m_M_isOne l (nI j)) (va_cwS 1 hB (BIG_SS bw_387 bw_388 bw_18 bw_389) rfl rfl rfl ⟨by decide, by decide, by decide +kernel⟩ ⟨Nat.le_of_ble_eq_true rfl, Nat.le_of_ble_eq_true rfl⟩) preEq rfl rfl hl.1 rfl (lv_room (Nat.le_of_ble_eq_true rfl)) d_M_save_7 ⟨Nat.zero_le _, Nat.zero_le _⟩)) (fun r7 hr7 => ?_)
        refine W.eq (g2 := F0 m 10 ls [.int (bI true), .ref (a 0)]) (by rw [hr7, hq]; rfl) ?_
        refine lv_if_ne hx hb d_M_save_10 rfl (fun _ => ?_) (fun h9 => absurd h9 (by decide))
        refine lv_iconst (v := bI false) hx hb d_M_save_17 (by decide) ?_
        refine lv_iconst (v := 1) hx hb d_M_save_18 (by decide) ?_
        have hFc := va_free (wc := mW k a (0, zC r, zW r, zG r, zP r, zS r, zH r, zR r, zO r, zD r, zL r)) hD hS hA [0, 1, 2, 3, 4, 5, 6, 7, 8] rfl
        refine va_calli (va_runV (As := [.int (bI false), .int 1]) (rest := []) ⟨hx, hb, hml, hown, hB⟩ (m_M_fails_f l dC dI k a _ (0, zC r, zW r, zG r, zP r, zS r, zH r, zR r, zO r, zD r, zL r) 1 rfl) (cwV 2 hB (BIG_V bw_394 bw_395 bw_10 bw_18 bw_396) rfl rfl rfl ⟨rfl, by decide, by decide, by decide +kernel⟩ ⟨Nat.le_of_ble_eq_true rfl, Nat.le_of_ble_eq_true rfl⟩) (mPc_pre _ hP hK hD) rfl rfl hl.1 rfl (lv_room (Nat.le_of_ble_eq_true rfl)) d_M_save_19 ⟨Nat.zero_le _, Nat.zero_le _⟩) hS (fun q _ h => hFc q h) hFc (fun r7 u t H1 locs ht hvm hw hB1 hz1 hk1 hS => ?_)
        obtain ⟨hw1, hw2⟩ := hw
        subst hw1
        subst hw2
        have hP : va_P (dC, dI) vwC (mW k a (0, zC r, zW r, zG r, zP r, zS r, zH r, zR r, zO r, zD r, zL r)) H1 := by rw [← ht]; exact hB1
        have hD : va_D A (mW k a (0, zC r, zW r, zG r, zP r, zS r, zH r, zR r, zO r, zD r, zL r)) := mW_D hDk
        clear hFc hB1 hk1 hz1 ht hvm
        generalize H1 = H at hP hS ⊢
        refine lv_if_ne hx hb d_M_save_22 rfl (fun h9 => absurd h9 (by decide)) (fun _ => ?_)
        refine lv_aload_n hx hb d_M_save_25 rfl (lv_at hl 0 rfl) ?_
        refine lv_aload_n hx hb d_M_save_26 rfl (lv_at hl 0 rfl) ?_
        refine va_get (D := (dC, dI)) (ci := 2) (v := .ref (a 8)) (C := R_M) (T := F_M) (N := 11) hx hb hB in_M hown hK hP 0 rfl rfl 8 (by decide) (hB _ bw_363) (fun _ h9 => h9) rfl d_M_save_27 ?_
        refine lv_iload_n hx hb d_M_save_30 rfl (lv_at hl 1 rfl) ?_
        refine va_zald hx hb hK hP 8 4 rfl rfl (pk_in j 8 (by omega)) d_M_save_31 ?_
        refine W.eq (g2 := F0 m 32 ls [.int (bI (zO r j)), .ref (a 0)]) (by rw [cl_nI (by omega)]) ?_
        refine W.eq (g2 := F0 m 32 ls [.int (bI true), .ref (a 0)]) (by rw [ho]) ?_
        refine lv_if_ne hx hb d_M_save_32 rfl (fun _ => ?_) (fun h9 => absurd h9 (by decide))
        refine lv_iconst (v := bI false) hx hb d_M_save_39 (by decide) ?_
        refine lv_iconst (v := 2) hx hb d_M_save_40 (by decide) ?_
        have hFc := va_free (wc := mW k a (0, zC r, zW r, zG r, zP r, zS r, zH r, zR r, zO r, zD r, zL r)) hD hS hA [0, 1, 2, 3, 4, 5, 6, 7, 8] rfl
        refine va_calli (va_runV (As := [.int (bI false), .int 2]) (rest := []) ⟨hx, hb, hml, hown, hB⟩ (m_M_fails_f l dC dI k a _ (0, zC r, zW r, zG r, zP r, zS r, zH r, zR r, zO r, zD r, zL r) 2 rfl) (cwV 2 hB (BIG_V bw_394 bw_395 bw_10 bw_18 bw_396) rfl rfl rfl ⟨rfl, by decide, by decide, by decide +kernel⟩ ⟨Nat.le_of_ble_eq_true rfl, Nat.le_of_ble_eq_true rfl⟩) (mPc_pre _ hP hK hD) rfl rfl hl.1 rfl (lv_room (Nat.le_of_ble_eq_true rfl)) d_M_save_41 ⟨Nat.zero_le _, Nat.zero_le _⟩) hS (fun q _ h => hFc q h) hFc (fun r7 u t H1 locs ht hvm hw hB1 hz1 hk1 hS => ?_)
        obtain ⟨hw1, hw2⟩ := hw
        subst hw1
        subst hw2
        have hP : va_P (dC, dI) vwC (mW k a (0, zC r, zW r, zG r, zP r, zS r, zH r, zR r, zO r, zD r, zL r)) H1 := by rw [← ht]; exact hB1
        have hD : va_D A (mW k a (0, zC r, zW r, zG r, zP r, zS r, zH r, zR r, zO r, zD r, zL r)) := mW_D hDk
        clear hFc hB1 hk1 hz1 ht hvm
        generalize H1 = H at hP hS ⊢
        refine lv_if_ne hx hb d_M_save_44 rfl (fun h9 => absurd h9 (by decide)) (fun _ => ?_)
        refine lv_aload_n hx hb d_M_save_47 rfl (lv_at hl 0 rfl) ?_
        refine lv_aload_n hx hb d_M_save_48 rfl (lv_at hl 0 rfl) ?_
        refine va_get (D := (dC, dI)) (ci := 2) (v := .ref (a 4)) (C := R_M) (T := F_M) (N := 11) hx hb hB in_M hown hK hP 0 rfl rfl 4 (by decide) (hB _ bw_359) (fun _ h9 => h9) rfl d_M_save_49 ?_
        refine lv_iload_n hx hb d_M_save_52 rfl (lv_at hl 1 rfl) ?_
        refine va_iald hx hb hK hP 4 0 rfl rfl (pk_in j 8 (by omega)) d_M_save_53 ?_
        refine W.eq (g2 := F0 m 54 ls [.int (nI (zP r j)), .ref (a 0)]) (by rw [cl_nI (by omega)]) ?_
        refine lv_iconst (v := nI 5) hx hb d_M_save_54 (by decide) ?_
        refine lv_icmp_ne hx hb d_M_save_55 rfl (fun h9 => absurd h9 (fun q => q h2)) (fun _ => ?_)
        refine lv_iconst (v := bI true) hx hb d_M_save_58 (by decide) ?_
        refine lv_goto hx hb d_M_save_59 rfl ?_
        refine lv_iconst (v := 3) hx hb d_M_save_63 (by decide) ?_
        have hFc := va_free (wc := mW k a (0, zC r, zW r, zG r, zP r, zS r, zH r, zR r, zO r, zD r, zL r)) hD hS hA [0, 1, 2, 3, 4, 5, 6, 7, 8] rfl
        refine va_calli (va_runV (As := [.int (bI true), .int 3]) (rest := []) ⟨hx, hb, hml, hown, hB⟩ (m_M_fails_t l dC dI k a _ (0, zC r, zW r, zG r, zP r, zS r, zH r, zR r, zO r, zD r, zL r) 3 rfl (by decide)) (cwV 2 hB (BIG_V bw_394 bw_395 bw_10 bw_18 bw_396) rfl rfl rfl ⟨rfl, by decide, by decide, by decide +kernel⟩ ⟨Nat.le_of_ble_eq_true rfl, Nat.le_of_ble_eq_true rfl⟩) (mPc_pre _ hP hK hD) rfl rfl hl.1 rfl (lv_room (Nat.le_of_ble_eq_true rfl)) d_M_save_64 ⟨Nat.zero_le _, Nat.zero_le _⟩) hS (fun q _ h => hFc q h) hFc (fun r7 u t H1 locs ht hvm hw hB1 hz1 hk1 hS => ?_)
        obtain ⟨hw1, hw2⟩ := hw
        subst hw1
        subst hw2
        have hP : va_P (dC, dI) vwC (mW k a (zErr (0, zC r, zW r, zG r, zP r, zS r, zH r, zR r, zO r, zD r, zL r) 3)) H1 := by rw [← ht]; exact hB1
        have hD : va_D A (mW k a (zErr (0, zC r, zW r, zG r, zP r, zS r, zH r, zR r, zO r, zD r, zL r) 3)) := mW_D hDk
        clear hFc hB1 hk1 hz1 ht hvm
        generalize H1 = H at hP hS ⊢
        have hP : va_P (dC, dI) vwC (mW k a (3, zC r, zW r, zG r, zP r, zS r, zH r, zR r, zO r, zD r, zL r)) H := hP
        have hD : va_D A (mW k a (3, zC r, zW r, zG r, zP r, zS r, zH r, zR r, zO r, zD r, zL r)) := hD
        refine lv_if_eq hx hb d_M_save_67 rfl (fun h9 => absurd h9 (by decide)) (fun _ => ?_)
        refine lv_iconst (v := 0) hx hb d_M_save_70 (by decide) ?_
        exact W.iret (v := 0) hx hb hr (fun t ht hW => ⟨⟨0, (3, zC r, zW r, zG r, zP r, zS r, zH r, zR r, zO r, zD r, zL r), rfl, by unfold zSave; rw [hq]; dsimp only; rw [if_neg (by rw [ho]; decide)]; rw [if_pos h1]; first | done | rfl, by show va_P (dC, dI) vwC _ t.heap; rw [ht]; exact hP⟩, hS.F ht⟩) hS.2.2 d_M_save_71
      · have h2 : ¬ nI (zP r j) = nI 5 := fun q => h1 ((nI_eq (by omega) (by omega)).mp q)
        have hup : va_up (zP r) j (zP r j + 1) j = zP r j + 1 := va_up_self _ _ _
        have hat : (5 * j + zP r j - 1) * 32 + 32 ≤ 1280 := by omega
        have hz0 : zAt r j 0 + 32 ≤ 1280 ∧ 32 ≤ zAt r j 0 + 32 := by unfold zAt; omega
        have hz1 : zAt r j 0 + 32 + 32 ≤ 1280 := by unfold zAt; omega
        refine lv_aload_n hx hb d_M_save_0 rfl (lv_at hl 0 rfl) ?_
        refine lv_iconst (v := 0) hx hb d_M_save_1 (by decide) ?_
        refine va_put (D := (dC, dI)) (ci := 2) (v := .int 0) (ty := .int) (C := R_M) (T := F_M) (N := 11) hx hb hB in_M tf_M ty_M nm_M hown hK hP hD hS 0 rfl rfl 0 (by decide) (hB _ bw_355) (fun _ h9 => h9) rfl (by decide +kernel) rfl rfl (Nat.le_of_ble_eq_true rfl) d_M_save_2 (fun H locs hP hD hS => ?_)
        have hP : va_P (dC, dI) vwC (mW k a (0, zC r, zW r, zG r, zP r, zS r, zH r, zR r, zO r, zD r, zL r)) H := hP
        have hD : va_D A (mW k a (0, zC r, zW r, zG r, zP r, zS r, zH r, zR r, zO r, zD r, zL r)) := hD
        refine lv_aload_n hx hb d_M_save_5 rfl (lv_at hl 0 rfl) ?_
        refine lv_iload_n hx hb d_M_save_6 rfl (lv_at hl 1 rfl) ?_
        refine vp_callSi (va_Run.run (va_runS (As := [.int (nI j)]) (rest := [.ref (a 0)]) ⟨hx, hb, hml, hown, hB⟩ (m_M_isOne l (nI j)) (va_cwS 1 hB (BIG_SS bw_387 bw_388 bw_18 bw_389) rfl rfl rfl ⟨by decide, by decide, by decide +kernel⟩ ⟨Nat.le_of_ble_eq_true rfl, Nat.le_of_ble_eq_true rfl⟩) preEq rfl rfl hl.1 rfl (lv_room (Nat.le_of_ble_eq_true rfl)) d_M_save_7 ⟨Nat.zero_le _, Nat.zero_le _⟩)) (fun r7 hr7 => ?_)
        refine W.eq (g2 := F0 m 10 ls [.int (bI true), .ref (a 0)]) (by rw [hr7, hq]; rfl) ?_
        refine lv_if_ne hx hb d_M_save_10 rfl (fun _ => ?_) (fun h9 => absurd h9 (by decide))
        refine lv_iconst (v := bI false) hx hb d_M_save_17 (by decide) ?_
        refine lv_iconst (v := 1) hx hb d_M_save_18 (by decide) ?_
        have hFc := va_free (wc := mW k a (0, zC r, zW r, zG r, zP r, zS r, zH r, zR r, zO r, zD r, zL r)) hD hS hA [0, 1, 2, 3, 4, 5, 6, 7, 8] rfl
        refine va_calli (va_runV (As := [.int (bI false), .int 1]) (rest := []) ⟨hx, hb, hml, hown, hB⟩ (m_M_fails_f l dC dI k a _ (0, zC r, zW r, zG r, zP r, zS r, zH r, zR r, zO r, zD r, zL r) 1 rfl) (cwV 2 hB (BIG_V bw_394 bw_395 bw_10 bw_18 bw_396) rfl rfl rfl ⟨rfl, by decide, by decide, by decide +kernel⟩ ⟨Nat.le_of_ble_eq_true rfl, Nat.le_of_ble_eq_true rfl⟩) (mPc_pre _ hP hK hD) rfl rfl hl.1 rfl (lv_room (Nat.le_of_ble_eq_true rfl)) d_M_save_19 ⟨Nat.zero_le _, Nat.zero_le _⟩) hS (fun q _ h => hFc q h) hFc (fun r7 u t H1 locs ht hvm hw hB1 hz1 hk1 hS => ?_)
        obtain ⟨hw1, hw2⟩ := hw
        subst hw1
        subst hw2
        have hP : va_P (dC, dI) vwC (mW k a (0, zC r, zW r, zG r, zP r, zS r, zH r, zR r, zO r, zD r, zL r)) H1 := by rw [← ht]; exact hB1
        have hD : va_D A (mW k a (0, zC r, zW r, zG r, zP r, zS r, zH r, zR r, zO r, zD r, zL r)) := mW_D hDk
        clear hFc hB1 hk1 hz1 ht hvm
        generalize H1 = H at hP hS ⊢
        refine lv_if_ne hx hb d_M_save_22 rfl (fun h9 => absurd h9 (by decide)) (fun _ => ?_)
        refine lv_aload_n hx hb d_M_save_25 rfl (lv_at hl 0 rfl) ?_
        refine lv_aload_n hx hb d_M_save_26 rfl (lv_at hl 0 rfl) ?_
        refine va_get (D := (dC, dI)) (ci := 2) (v := .ref (a 8)) (C := R_M) (T := F_M) (N := 11) hx hb hB in_M hown hK hP 0 rfl rfl 8 (by decide) (hB _ bw_363) (fun _ h9 => h9) rfl d_M_save_27 ?_
        refine lv_iload_n hx hb d_M_save_30 rfl (lv_at hl 1 rfl) ?_
        refine va_zald hx hb hK hP 8 4 rfl rfl (pk_in j 8 (by omega)) d_M_save_31 ?_
        refine W.eq (g2 := F0 m 32 ls [.int (bI (zO r j)), .ref (a 0)]) (by rw [cl_nI (by omega)]) ?_
        refine W.eq (g2 := F0 m 32 ls [.int (bI true), .ref (a 0)]) (by rw [ho]) ?_
        refine lv_if_ne hx hb d_M_save_32 rfl (fun _ => ?_) (fun h9 => absurd h9 (by decide))
        refine lv_iconst (v := bI false) hx hb d_M_save_39 (by decide) ?_
        refine lv_iconst (v := 2) hx hb d_M_save_40 (by decide) ?_
        have hFc := va_free (wc := mW k a (0, zC r, zW r, zG r, zP r, zS r, zH r, zR r, zO r, zD r, zL r)) hD hS hA [0, 1, 2, 3, 4, 5, 6, 7, 8] rfl
        refine va_calli (va_runV (As := [.int (bI false), .int 2]) (rest := []) ⟨hx, hb, hml, hown, hB⟩ (m_M_fails_f l dC dI k a _ (0, zC r, zW r, zG r, zP r, zS r, zH r, zR r, zO r, zD r, zL r) 2 rfl) (cwV 2 hB (BIG_V bw_394 bw_395 bw_10 bw_18 bw_396) rfl rfl rfl ⟨rfl, by decide, by decide, by decide +kernel⟩ ⟨Nat.le_of_ble_eq_true rfl, Nat.le_of_ble_eq_true rfl⟩) (mPc_pre _ hP hK hD) rfl rfl hl.1 rfl (lv_room (Nat.le_of_ble_eq_true rfl)) d_M_save_41 ⟨Nat.zero_le _, Nat.zero_le _⟩) hS (fun q _ h => hFc q h) hFc (fun r7 u t H1 locs ht hvm hw hB1 hz1 hk1 hS => ?_)
        obtain ⟨hw1, hw2⟩ := hw
        subst hw1
        subst hw2
        have hP : va_P (dC, dI) vwC (mW k a (0, zC r, zW r, zG r, zP r, zS r, zH r, zR r, zO r, zD r, zL r)) H1 := by rw [← ht]; exact hB1
        have hD : va_D A (mW k a (0, zC r, zW r, zG r, zP r, zS r, zH r, zR r, zO r, zD r, zL r)) := mW_D hDk
        clear hFc hB1 hk1 hz1 ht hvm
        generalize H1 = H at hP hS ⊢
        refine lv_if_ne hx hb d_M_save_44 rfl (fun h9 => absurd h9 (by decide)) (fun _ => ?_)
        refine lv_aload_n hx hb d_M_save_47 rfl (lv_at hl 0 rfl) ?_
        refine lv_aload_n hx hb d_M_save_48 rfl (lv_at hl 0 rfl) ?_
        refine va_get (D := (dC, dI)) (ci := 2) (v := .ref (a 4)) (C := R_M) (T := F_M) (N := 11) hx hb hB in_M hown hK hP 0 rfl rfl 4 (by decide) (hB _ bw_359) (fun _ h9 => h9) rfl d_M_save_49 ?_
        refine lv_iload_n hx hb d_M_save_52 rfl (lv_at hl 1 rfl) ?_
        refine va_iald hx hb hK hP 4 0 rfl rfl (pk_in j 8 (by omega)) d_M_save_53 ?_
        refine W.eq (g2 := F0 m 54 ls [.int (nI (zP r j)), .ref (a 0)]) (by rw [cl_nI (by omega)]) ?_
        refine lv_iconst (v := nI 5) hx hb d_M_save_54 (by decide) ?_
        refine lv_icmp_ne hx hb d_M_save_55 rfl (fun _ => ?_) (fun h9 => absurd h9 (h2))
        refine lv_iconst (v := bI false) hx hb d_M_save_62 (by decide) ?_
        refine lv_iconst (v := 3) hx hb d_M_save_63 (by decide) ?_
        have hFc := va_free (wc := mW k a (0, zC r, zW r, zG r, zP r, zS r, zH r, zR r, zO r, zD r, zL r)) hD hS hA [0, 1, 2, 3, 4, 5, 6, 7, 8] rfl
        refine va_calli (va_runV (As := [.int (bI false), .int 3]) (rest := []) ⟨hx, hb, hml, hown, hB⟩ (m_M_fails_f l dC dI k a _ (0, zC r, zW r, zG r, zP r, zS r, zH r, zR r, zO r, zD r, zL r) 3 rfl) (cwV 2 hB (BIG_V bw_394 bw_395 bw_10 bw_18 bw_396) rfl rfl rfl ⟨rfl, by decide, by decide, by decide +kernel⟩ ⟨Nat.le_of_ble_eq_true rfl, Nat.le_of_ble_eq_true rfl⟩) (mPc_pre _ hP hK hD) rfl rfl hl.1 rfl (lv_room (Nat.le_of_ble_eq_true rfl)) d_M_save_64 ⟨Nat.zero_le _, Nat.zero_le _⟩) hS (fun q _ h => hFc q h) hFc (fun r7 u t H1 locs ht hvm hw hB1 hz1 hk1 hS => ?_)
        obtain ⟨hw1, hw2⟩ := hw
        subst hw1
        subst hw2
        have hP : va_P (dC, dI) vwC (mW k a (0, zC r, zW r, zG r, zP r, zS r, zH r, zR r, zO r, zD r, zL r)) H1 := by rw [← ht]; exact hB1
        have hD : va_D A (mW k a (0, zC r, zW r, zG r, zP r, zS r, zH r, zR r, zO r, zD r, zL r)) := mW_D hDk
        clear hFc hB1 hk1 hz1 ht hvm
        generalize H1 = H at hP hS ⊢
        refine lv_if_eq hx hb d_M_save_67 rfl (fun _ => ?_) (fun h9 => absurd (by decide) h9)
        refine lv_aload_n hx hb d_M_save_72 rfl (lv_at hl 0 rfl) ?_
        refine va_get (D := (dC, dI)) (ci := 2) (v := .ref (a 4)) (C := R_M) (T := F_M) (N := 11) hx hb hB in_M hown hK hP 0 rfl rfl 4 (by decide) (hB _ bw_359) (fun _ h9 => h9) rfl d_M_save_73 ?_
        refine lv_iload_n hx hb d_M_save_76 rfl (lv_at hl 1 rfl) ?_
        refine lv_dup2_11 hx hb d_M_save_77 rfl rfl ?_
        refine va_iald hx hb hK hP 4 0 rfl rfl (pk_in j 8 (by omega)) d_M_save_78 ?_
        refine W.eq (g2 := F0 m 79 ls [.int (nI (zP r j)), .int (nI j), .ref (a 4)]) (by rw [cl_nI (by omega)]) ?_
        refine lv_iconst (v := nI 1) hx hb d_M_save_79 (by decide) ?_
        refine lv_iadd hx hb d_M_save_80 ?_
        refine W.eq (g2 := F0 m 81 ls [.int (nI ((zP r j) + 1)), .int (nI j), .ref (a 4)]) (by rw [nI_add]) ?_
        refine va_iast hx hb hK hP hD hS 4 0 rfl rfl (pk_in j 8 (by omega)) d_M_save_81 (fun H locs hP hD hS => ?_)
        rw [cl_nI (by omega), nI_upd] at hP
        have hP : va_P (dC, dI) vwC (mW k a (0, zC r, zW r, zG r, va_up (zP r) j ((zP r j) + 1), zS r, zH r, zR r, zO r, zD r, zL r)) H := hP
        have hD : va_D A (mW k a (0, zC r, zW r, zG r, va_up (zP r) j ((zP r j) + 1), zS r, zH r, zR r, zO r, zD r, zL r)) := mW_D hDk
        refine lv_aload_n hx hb d_M_save_82 rfl (lv_at hl 0 rfl) ?_
        refine lv_aload_n hx hb d_M_save_83 rfl (lv_at hl 0 rfl) ?_
        refine lv_iload_n hx hb d_M_save_84 rfl (lv_at hl 1 rfl) ?_
        refine lv_iconst (v := nI 0) hx hb d_M_save_85 (by decide) ?_
        refine vp_callSi (va_Run.run (va_runV (As := [.int (nI j), .int (nI 0)]) (rest := [.ref (a 0)]) ⟨hx, hb, hml, hown, hB⟩ (m_M_last l dC dI k a (0, zC r, zW r, zG r, va_up (zP r) j ((zP r j) + 1), zS r, zH r, zR r, zO r, zD r, zL r) j 0 (by omega) (by omega) (by show 1 ≤ va_up (zP r) j (zP r j + 1) j; rw [hup]; omega) (by show va_up (zP r) j (zP r j + 1) j ≤ 5; rw [hup]; omega)) (cwV 2 hB (BIG_V bw_397 bw_398 bw_11 bw_18 bw_399) rfl rfl rfl ⟨rfl, by decide, by decide, by decide +kernel⟩ ⟨Nat.le_of_ble_eq_true rfl, Nat.le_of_ble_eq_true rfl⟩) (mRc_pre _ hP hK) rfl rfl hl.1 rfl (lv_room (Nat.le_of_ble_eq_true rfl)) d_M_save_86 ⟨Nat.zero_le _, Nat.zero_le _⟩)) (fun r7 hr7 => ?_)
        refine W.eq (g2 := F0 m 89 ls [.int (nI (zAt r j 0 + 32)), .ref (a 0)]) (by rw [hr7]; show F0 _ _ _ (Value.int (nI ((5 * j + va_up (zP r) j (zP r j + 1) j - 1) * 32 + 0)) :: _) = _; rw [hup, show (5 * j + (zP r j + 1) - 1) * 32 + 0 = zAt r j 0 + 32 by unfold zAt; omega]) ?_
        refine lv_bipush (v := nI 32) hx hb d_M_save_89 (by decide) ?_
        refine lv_isub hx hb d_M_save_91 ?_
        refine W.eq (g2 := F0 m 92 ls [.int (nI ((zAt r j 0 + 32) - 32)), .ref (a 0)]) (by rw [pk_sub (by omega)]) ?_
        refine lv_aload_n hx hb d_M_save_92 rfl (lv_at hl 0 rfl) ?_
        refine lv_iload_n hx hb d_M_save_93 rfl (lv_at hl 1 rfl) ?_
        refine lv_iconst (v := nI 0) hx hb d_M_save_94 (by decide) ?_
        refine vp_callSi (va_Run.run (va_runV (As := [.int (nI j), .int (nI 0)]) (rest := [.int (nI ((zAt r j 0 + 32) - 32)), .ref (a 0)]) ⟨hx, hb, hml, hown, hB⟩ (m_M_last l dC dI k a (0, zC r, zW r, zG r, va_up (zP r) j ((zP r j) + 1), zS r, zH r, zR r, zO r, zD r, zL r) j 0 (by omega) (by omega) (by show 1 ≤ va_up (zP r) j (zP r j + 1) j; rw [hup]; omega) (by show va_up (zP r) j (zP r j + 1) j ≤ 5; rw [hup]; omega)) (cwV 2 hB (BIG_V bw_397 bw_398 bw_11 bw_18 bw_399) rfl rfl rfl ⟨rfl, by decide, by decide, by decide +kernel⟩ ⟨Nat.le_of_ble_eq_true rfl, Nat.le_of_ble_eq_true rfl⟩) (mRc_pre _ hP hK) rfl rfl hl.1 rfl (lv_room (Nat.le_of_ble_eq_true rfl)) d_M_save_95 ⟨Nat.zero_le _, Nat.zero_le _⟩)) (fun r7 hr7 => ?_)
        refine W.eq (g2 := F0 m 98 ls [.int (nI (zAt r j 0 + 32)), .int (nI ((zAt r j 0 + 32) - 32)), .ref (a 0)]) (by rw [hr7]; show F0 _ _ _ (Value.int (nI ((5 * j + va_up (zP r) j (zP r j + 1) j - 1) * 32 + 0)) :: _) = _; rw [hup, show (5 * j + (zP r j + 1) - 1) * 32 + 0 = zAt r j 0 + 32 by unfold zAt; omega]) ?_
        refine W.eq (g2 := F0 m 98 ls [.int (nI (zAt r j 0 + 32)), .int (nI (zAt r j 0)), .ref (a 0)]) (by rw [show ((zAt r j 0 + 32) - 32) = zAt r j 0 by omega]) ?_
        have hFc := va_free (wc := mW k a (0, zC r, zW r, zG r, va_up (zP r) j ((zP r j) + 1), zS r, zH r, zR r, zO r, zD r, zL r)) hD hS hA [0, 1, 2, 3, 4, 5, 6, 7, 8] rfl
        refine va_callv (va_runV (As := [.int (nI (zAt r j 0)), .int (nI (zAt r j 0 + 32))]) (rest := []) ⟨hx, hb, hml, hown, hB⟩ (m_M_copy l dC dI k a _ (0, zC r, zW r, zG r, va_up (zP r) j ((zP r j) + 1), zS r, zH r, zR r, zO r, zD r, zL r) (zAt r j 0) (zAt r j 0 + 32) (by omega) (by omega)) (cwV 2 hB (BIG_V bw_419 bw_420 bw_13 bw_18 bw_421) rfl rfl rfl ⟨rfl, by decide, by decide, by decide +kernel⟩ ⟨Nat.le_of_ble_eq_true rfl, Nat.le_of_ble_eq_true rfl⟩) (mPc_pre _ hP hK hD) rfl rfl hl.1 rfl (lv_room (Nat.le_of_ble_eq_true rfl)) d_M_save_98 ⟨Nat.zero_le _, Nat.zero_le _⟩) hS (fun q _ h => hFc q h) hFc (fun u t H1 locs ht hvm hw hB1 hz1 hk1 hS => ?_)
        subst hw
        have hP : va_P (dC, dI) vwC (mW k a (0, zC r, zCpL (zW r) (zAt r j 0) (zAt r j 0 + 32) 32, zG r, va_up (zP r) j (zP r j + 1), zS r, zCpB (zH r) (zAt r j 0) (zAt r j 0 + 32) 32, zR r, zO r, zD r, zL r)) H1 := by rw [← ht]; exact hB1
        have hD : va_D A (mW k a (0, zC r, zCpL (zW r) (zAt r j 0) (zAt r j 0 + 32) 32, zG r, va_up (zP r) j (zP r j + 1), zS r, zCpB (zH r) (zAt r j 0) (zAt r j 0 + 32) 32, zR r, zO r, zD r, zL r)) := mW_D hDk
        clear hFc hB1 hk1 hz1 ht hvm
        generalize H1 = H at hP hS ⊢
        refine lv_aload_n hx hb d_M_save_101 rfl (lv_at hl 0 rfl) ?_
        refine va_get (D := (dC, dI)) (ci := 2) (v := .ref (a 4)) (C := R_M) (T := F_M) (N := 11) hx hb hB in_M hown hK hP 0 rfl rfl 4 (by decide) (hB _ bw_359) (fun _ h9 => h9) rfl d_M_save_102 ?_
        refine lv_iload_n hx hb d_M_save_105 rfl (lv_at hl 1 rfl) ?_
        refine va_iald hx hb hK hP 4 0 rfl rfl (pk_in j 8 (by omega)) d_M_save_106 ?_
        refine W.eq (g2 := F0 m 107 ls [.int (nI ((va_up (zP r) j ((zP r j) + 1)) j))]) (by rw [cl_nI (by omega)]) ?_
        exact W.iret (v := nI (va_up (zP r) j (zP r j + 1) j)) hx hb hr (fun t ht hW => ⟨⟨nI (va_up (zP r) j (zP r j + 1) j), (0, zC r, zCpL (zW r) (zAt r j 0) (zAt r j 0 + 32) 32, zG r, va_up (zP r) j ((zP r j) + 1), zS r, zCpB (zH r) (zAt r j 0) (zAt r j 0 + 32) 32, zR r, zO r, zD r, zL r), rfl, by rw [hup]; unfold zSave; rw [hq]; dsimp only; rw [if_neg (by rw [ho]; decide)]; rw [if_neg h1], by show va_P (dC, dI) vwC _ t.heap; rw [ht]; exact hP⟩, hS.F ht⟩) hS.2.2 d_M_save_107
set_option maxHeartbeats 4000000 in
set_option maxRecDepth 100000 in
theorem m_M_keep (l : Launch) (dC : Nat → ClassId) (dI : Nat → Nat → Nat) (k : Nat → ClassId) (a : Nat → Nat) (sz : Nat) (r : xRS) (tt : Int32) (hok : mOk r) : Met l y_M_keep w_M_keep (rmx 2 0 0 80) (mPc dC dI k a sz r [.ref (a 0), .int tt]) (va_Qv (fun u => u = zKeep r tt) (mB dC dI k a) (va_A (mW k a r) sz)) 0 0 (va_A (mW k a r) sz) := by
  refine Met.ofW (cc := c_M_keep) (maxL := 2) (ret := none) (by decide) rfl ?_
  intro p e s m args below meth c s₁ B hml hv
  obtain ⟨rfl, hsz, hP, hK, hD0⟩ := hv
  have hx := B.exec
  have hb := B.bytes
  have hr := B.returns
  have hts := atoms_spec (ws := w_M_keep) B.pre
  have hB : ∀ w ∈ BIG, w.before _ s = true := fun w h => hts w (List.mem_cons_of_mem _ h)
  have hown : s.vm.findClass R_M = some m.cls := findClass_of_methodNamed B.named
  have hlocks := B.notSynchronized
  have hl := lv_entry ([.ref (a 0), .int tt]) (n := 2) (Nat.le_of_ble_eq_true rfl)
  rw [lg_entry_eq]
  generalize (lg_sl ([.ref (a 0), .int tt]) ++ List.replicate (2 - (lg_sl ([.ref (a 0), .int tt])).length) Slot.unset).toArray = ls at hl ⊢
  have hl : lv_has ls 2 [(0, .ref (a 0)), (1, .int tt)] := hl
  subst hsz
  have hD := hD0.self (sz := s.heap.size)
  generalize hAe : va_A (mW k a r) s.heap.size = A at hD ⊢
  have hA : ∀ q : Nat, s.heap.size ≤ q → A q := fun q h => by rw [← hAe]; exact Or.inr h
  have hS : va_S A s.heap s.heap [] := va_S.rf
  have hDk := hD
  cases hq : ix 8 tt with
  | none =>
    refine lv_aload_n hx hb d_M_keep_0 rfl (lv_at hl 0 rfl) ?_
    refine lv_iconst (v := 0) hx hb d_M_keep_1 (by decide) ?_
    refine va_put (D := (dC, dI)) (ci := 2) (v := .int 0) (ty := .int) (C := R_M) (T := F_M) (N := 11) hx hb hB in_M tf_M ty_M nm_M hown hK hP hD hS 0 rfl rfl 0 (by decide) (hB _ bw_355) (fun _ h9 => h9) rfl (by decide +kernel) rfl rfl (Nat.le_of_ble_eq_true rfl) d_M_keep_2 (fun H locs hP hD hS => ?_)
    have hP : va_P (dC, dI) vwC (mW k a (0, zC r, zW r, zG r, zP r, zS r, zH r, zR r, zO r, zD r, zL r)) H := hP
    have hD : va_D A (mW k a (0, zC r, zW r, zG r, zP r, zS r, zH r, zR r, zO r, zD r, zL r)) := hD
    refine lv_aload_n hx hb d_M_keep_5 rfl (lv_at hl 0 rfl) ?_
    refine lv_iload_n hx hb d_M_keep_6 rfl (lv_at hl 1 rfl) ?_
    refine vp_callSi (va_Run.run (va_runS (As := [.int tt]) (rest := [.ref (a 0)]) ⟨hx, hb, hml, hown, hB⟩ (m_M_isOne l tt) (va_cwS 1 hB (BIG_SS bw_387 bw_388 bw_18 bw_389) rfl rfl rfl ⟨by decide, by decide, by decide +kernel⟩ ⟨Nat.le_of_ble_eq_true rfl, Nat.le_of_ble_eq_true rfl⟩) preEq rfl rfl hl.1 rfl (lv_room (Nat.le_of_ble_eq_true rfl)) d_M_keep_7 ⟨Nat.zero_le _, Nat.zero_le _⟩)) (fun r7 hr7 => ?_)
    refine W.eq (g2 := F0 m 10 ls [.int (bI false), .ref (a 0)]) (by rw [hr7, hq]; rfl) ?_
    refine lv_if_ne hx hb d_M_keep_10 rfl (fun h9 => absurd h9 (by decide)) (fun _ => ?_)
    refine lv_iconst (v := bI true) hx hb d_M_keep_13 (by decide) ?_
    refine lv_goto hx hb d_M_keep_14 rfl ?_
    refine lv_iconst (v := 1) hx hb d_M_keep_18 (by decide) ?_
    have hFc := va_free (wc := mW k a (0, zC r, zW r, zG r, zP r, zS r, zH r, zR r, zO r, zD r, zL r)) hD hS hA [0, 1, 2, 3, 4, 5, 6, 7, 8] rfl
    refine va_calli (va_runV (As := [.int (bI true), .int 1]) (rest := []) ⟨hx, hb, hml, hown, hB⟩ (m_M_fails_t l dC dI k a _ (0, zC r, zW r, zG r, zP r, zS r, zH r, zR r, zO r, zD r, zL r) 1 rfl (by decide)) (cwV 2 hB (BIG_V bw_394 bw_395 bw_10 bw_18 bw_396) rfl rfl rfl ⟨rfl, by decide, by decide, by decide +kernel⟩ ⟨Nat.le_of_ble_eq_true rfl, Nat.le_of_ble_eq_true rfl⟩) (mPc_pre _ hP hK hD) rfl rfl hl.1 rfl (lv_room (Nat.le_of_ble_eq_true rfl)) d_M_keep_19 ⟨Nat.zero_le _, Nat.zero_le _⟩) hS (fun q _ h => hFc q h) hFc (fun r7 u t H1 locs ht hvm hw hB1 hz1 hk1 hS => ?_)
    obtain ⟨hw1, hw2⟩ := hw
    subst hw1
    subst hw2
    have hP : va_P (dC, dI) vwC (mW k a (zErr (0, zC r, zW r, zG r, zP r, zS r, zH r, zR r, zO r, zD r, zL r) 1)) H1 := by rw [← ht]; exact hB1
    have hD : va_D A (mW k a (zErr (0, zC r, zW r, zG r, zP r, zS r, zH r, zR r, zO r, zD r, zL r) 1)) := mW_D hDk
    clear hFc hB1 hk1 hz1 ht hvm
    generalize H1 = H at hP hS ⊢
    have hP : va_P (dC, dI) vwC (mW k a (1, zC r, zW r, zG r, zP r, zS r, zH r, zR r, zO r, zD r, zL r)) H := hP
    have hD : va_D A (mW k a (1, zC r, zW r, zG r, zP r, zS r, zH r, zR r, zO r, zD r, zL r)) := hD
    refine lv_if_ne hx hb d_M_keep_22 rfl (fun _ => ?_) (fun h9 => absurd h9 (by decide))
    exact W.vret hx hb hr (fun t ht hW => ⟨⟨(1, zC r, zW r, zG r, zP r, zS r, zH r, zR r, zO r, zD r, zL r), rfl, by unfold zKeep; rw [hq]; first | done | rfl, by show va_P (dC, dI) vwC _ t.heap; rw [ht]; exact hP⟩, hS.F ht⟩) hS.2.2 d_M_keep_70
  | some j =>
    obtain ⟨hj, htj⟩ := ix_some (by decide) hq
    subst htj
    cases ho : zO r j with
    | false =>
      refine lv_aload_n hx hb d_M_keep_0 rfl (lv_at hl 0 rfl) ?_
      refine lv_iconst (v := 0) hx hb d_M_keep_1 (by decide) ?_
      refine va_put (D := (dC, dI)) (ci := 2) (v := .int 0) (ty := .int) (C := R_M) (T := F_M) (N := 11) hx hb hB in_M tf_M ty_M nm_M hown hK hP hD hS 0 rfl rfl 0 (by decide) (hB _ bw_355) (fun _ h9 => h9) rfl (by decide +kernel) rfl rfl (Nat.le_of_ble_eq_true rfl) d_M_keep_2 (fun H locs hP hD hS => ?_)
      have hP : va_P (dC, dI) vwC (mW k a (0, zC r, zW r, zG r, zP r, zS r, zH r, zR r, zO r, zD r, zL r)) H := hP
      have hD : va_D A (mW k a (0, zC r, zW r, zG r, zP r, zS r, zH r, zR r, zO r, zD r, zL r)) := hD
      refine lv_aload_n hx hb d_M_keep_5 rfl (lv_at hl 0 rfl) ?_
      refine lv_iload_n hx hb d_M_keep_6 rfl (lv_at hl 1 rfl) ?_
      refine vp_callSi (va_Run.run (va_runS (As := [.int (nI j)]) (rest := [.ref (a 0)]) ⟨hx, hb, hml, hown, hB⟩ (m_M_isOne l (nI j)) (va_cwS 1 hB (BIG_SS bw_387 bw_388 bw_18 bw_389) rfl rfl rfl ⟨by decide, by decide, by decide +kernel⟩ ⟨Nat.le_of_ble_eq_true rfl, Nat.le_of_ble_eq_true rfl⟩) preEq rfl rfl hl.1 rfl (lv_room (Nat.le_of_ble_eq_true rfl)) d_M_keep_7 ⟨Nat.zero_le _, Nat.zero_le _⟩)) (fun r7 hr7 => ?_)
      refine W.eq (g2 := F0 m 10 ls [.int (bI true), .ref (a 0)]) (by rw [hr7, hq]; rfl) ?_
      refine lv_if_ne hx hb d_M_keep_10 rfl (fun _ => ?_) (fun h9 => absurd h9 (by decide))
      refine lv_iconst (v := bI false) hx hb d_M_keep_17 (by decide) ?_
      refine lv_iconst (v := 1) hx hb d_M_keep_18 (by decide) ?_
      have hFc := va_free (wc := mW k a (0, zC r, zW r, zG r, zP r, zS r, zH r, zR r, zO r, zD r, zL r)) hD hS hA [0, 1, 2, 3, 4, 5, 6, 7, 8] rfl
      refine va_calli (va_runV (As := [.int (bI false), .int 1]) (rest := []) ⟨hx, hb, hml, hown, hB⟩ (m_M_fails_f l dC dI k a _ (0, zC r, zW r, zG r, zP r, zS r, zH r, zR r, zO r, zD r, zL r) 1 rfl) (cwV 2 hB (BIG_V bw_394 bw_395 bw_10 bw_18 bw_396) rfl rfl rfl ⟨rfl, by decide, by decide, by decide +kernel⟩ ⟨Nat.le_of_ble_eq_true rfl, Nat.le_of_ble_eq_true rfl⟩) (mPc_pre _ hP hK hD) rfl rfl hl.1 rfl (lv_room (Nat.le_of_ble_eq_true rfl)) d_M_keep_19 ⟨Nat.zero_le _, Nat.zero_le _⟩) hS (fun q _ h => hFc q h) hFc (fun r7 u t H1 locs ht hvm hw hB1 hz1 hk1 hS => ?_)
      obtain ⟨hw1, hw2⟩ := hw
      subst hw1
      subst hw2
      have hP : va_P (dC, dI) vwC (mW k a (0, zC r, zW r, zG r, zP r, zS r, zH r, zR r, zO r, zD r, zL r)) H1 := by rw [← ht]; exact hB1
      have hD : va_D A (mW k a (0, zC r, zW r, zG r, zP r, zS r, zH r, zR r, zO r, zD r, zL r)) := mW_D hDk
      clear hFc hB1 hk1 hz1 ht hvm
      generalize H1 = H at hP hS ⊢
      refine lv_if_ne hx hb d_M_keep_22 rfl (fun h9 => absurd h9 (by decide)) (fun _ => ?_)
      refine lv_aload_n hx hb d_M_keep_25 rfl (lv_at hl 0 rfl) ?_
      refine lv_aload_n hx hb d_M_keep_26 rfl (lv_at hl 0 rfl) ?_
      refine va_get (D := (dC, dI)) (ci := 2) (v := .ref (a 8)) (C := R_M) (T := F_M) (N := 11) hx hb hB in_M hown hK hP 0 rfl rfl 8 (by decide) (hB _ bw_363) (fun _ h9 => h9) rfl d_M_keep_27 ?_
      refine lv_iload_n hx hb d_M_keep_30 rfl (lv_at hl 1 rfl) ?_
      refine va_zald hx hb hK hP 8 4 rfl rfl (pk_in j 8 (by omega)) d_M_keep_31 ?_
      refine W.eq (g2 := F0 m 32 ls [.int (bI (zO r j)), .ref (a 0)]) (by rw [cl_nI (by omega)]) ?_
      refine W.eq (g2 := F0 m 32 ls [.int (bI false), .ref (a 0)]) (by rw [ho]) ?_
      refine lv_if_ne hx hb d_M_keep_32 rfl (fun h9 => absurd h9 (by decide)) (fun _ => ?_)
      refine lv_iconst (v := bI true) hx hb d_M_keep_35 (by decide) ?_
      refine lv_goto hx hb d_M_keep_36 rfl ?_
      refine lv_iconst (v := 2) hx hb d_M_keep_40 (by decide) ?_
      have hFc := va_free (wc := mW k a (0, zC r, zW r, zG r, zP r, zS r, zH r, zR r, zO r, zD r, zL r)) hD hS hA [0, 1, 2, 3, 4, 5, 6, 7, 8] rfl
      refine va_calli (va_runV (As := [.int (bI true), .int 2]) (rest := []) ⟨hx, hb, hml, hown, hB⟩ (m_M_fails_t l dC dI k a _ (0, zC r, zW r, zG r, zP r, zS r, zH r, zR r, zO r, zD r, zL r) 2 rfl (by decide)) (cwV 2 hB (BIG_V bw_394 bw_395 bw_10 bw_18 bw_396) rfl rfl rfl ⟨rfl, by decide, by decide, by decide +kernel⟩ ⟨Nat.le_of_ble_eq_true rfl, Nat.le_of_ble_eq_true rfl⟩) (mPc_pre _ hP hK hD) rfl rfl hl.1 rfl (lv_room (Nat.le_of_ble_eq_true rfl)) d_M_keep_41 ⟨Nat.zero_le _, Nat.zero_le _⟩) hS (fun q _ h => hFc q h) hFc (fun r7 u t H1 locs ht hvm hw hB1 hz1 hk1 hS => ?_)
      obtain ⟨hw1, hw2⟩ := hw
      subst hw1
      subst hw2
      have hP : va_P (dC, dI) vwC (mW k a (zErr (0, zC r, zW r, zG r, zP r, zS r, zH r, zR r, zO r, zD r, zL r) 2)) H1 := by rw [← ht]; exact hB1
      have hD : va_D A (mW k a (zErr (0, zC r, zW r, zG r, zP r, zS r, zH r, zR r, zO r, zD r, zL r) 2)) := mW_D hDk
      clear hFc hB1 hk1 hz1 ht hvm
      generalize H1 = H at hP hS ⊢
      have hP : va_P (dC, dI) vwC (mW k a (2, zC r, zW r, zG r, zP r, zS r, zH r, zR r, zO r, zD r, zL r)) H := hP
      have hD : va_D A (mW k a (2, zC r, zW r, zG r, zP r, zS r, zH r, zR r, zO r, zD r, zL r)) := hD
      refine lv_if_ne hx hb d_M_keep_44 rfl (fun _ => ?_) (fun h9 => absurd h9 (by decide))
      exact W.vret hx hb hr (fun t ht hW => ⟨⟨(2, zC r, zW r, zG r, zP r, zS r, zH r, zR r, zO r, zD r, zL r), rfl, by unfold zKeep; rw [hq]; dsimp only; rw [if_pos ho]; first | done | rfl, by show va_P (dC, dI) vwC _ t.heap; rw [ht]; exact hP⟩, hS.F ht⟩) hS.2.2 d_M_keep_70
    | true =>
      obtain ⟨hp1, hp5⟩ := hok j hj ho
      by_cases h1 : zP r j = 1
      · have h2 : nI (zP r j) = nI 1 := by rw [h1]
        refine lv_aload_n hx hb d_M_keep_0 rfl (lv_at hl 0 rfl) ?_
        refine lv_iconst (v := 0) hx hb d_M_keep_1 (by decide) ?_
        refine va_put (D := (dC, dI)) (ci := 2) (v := .int 0) (ty := .int) (C := R_M) (T := F_M) (N := 11) hx hb hB in_M tf_M ty_M nm_M hown hK hP hD hS 0 rfl rfl 0 (by decide) (hB _ bw_355) (fun _ h9 => h9) rfl (by decide +kernel) rfl rfl (Nat.le_of_ble_eq_true rfl) d_M_keep_2 (fun H locs hP hD hS => ?_)
        have hP : va_P (dC, dI) vwC (mW k a (0, zC r, zW r, zG r, zP r, zS r, zH r, zR r, zO r, zD r, zL r)) H := hP
        have hD : va_D A (mW k a (0, zC r, zW r, zG r, zP r, zS r, zH r, zR r, zO r, zD r, zL r)) := hD
        refine lv_aload_n hx hb d_M_keep_5 rfl (lv_at hl 0 rfl) ?_
        refine lv_iload_n hx hb d_M_keep_6 rfl (lv_at hl 1 rfl) ?_
        refine vp_callSi (va_Run.run (va_runS (As := [.int (nI j)]) (rest := [.ref (a 0)]) ⟨hx, hb, hml, hown, hB⟩ (m_M_isOne l (nI j)) (va_cwS 1 hB (BIG_SS bw_387 bw_388 bw_18 bw_389) rfl rfl rfl ⟨by decide, by decide, by decide +kernel⟩ ⟨Nat.le_of_ble_eq_true rfl, Nat.le_of_ble_eq_true rfl⟩) preEq rfl rfl hl.1 rfl (lv_room (Nat.le_of_ble_eq_true rfl)) d_M_keep_7 ⟨Nat.zero_le _, Nat.zero_le _⟩)) (fun r7 hr7 => ?_)
        refine W.eq (g2 := F0 m 10 ls [.int (bI true), .ref (a 0)]) (by rw [hr7, hq]; rfl) ?_
        refine lv_if_ne hx hb d_M_keep_10 rfl (fun _ => ?_) (fun h9 => absurd h9 (by decide))
        refine lv_iconst (v := bI false) hx hb d_M_keep_17 (by decide) ?_
        refine lv_iconst (v := 1) hx hb d_M_keep_18 (by decide) ?_
        have hFc := va_free (wc := mW k a (0, zC r, zW r, zG r, zP r, zS r, zH r, zR r, zO r, zD r, zL r)) hD hS hA [0, 1, 2, 3, 4, 5, 6, 7, 8] rfl
        refine va_calli (va_runV (As := [.int (bI false), .int 1]) (rest := []) ⟨hx, hb, hml, hown, hB⟩ (m_M_fails_f l dC dI k a _ (0, zC r, zW r, zG r, zP r, zS r, zH r, zR r, zO r, zD r, zL r) 1 rfl) (cwV 2 hB (BIG_V bw_394 bw_395 bw_10 bw_18 bw_396) rfl rfl rfl ⟨rfl, by decide, by decide, by decide +kernel⟩ ⟨Nat.le_of_ble_eq_true rfl, Nat.le_of_ble_eq_true rfl⟩) (mPc_pre _ hP hK hD) rfl rfl hl.1 rfl (lv_room (Nat.le_of_ble_eq_true rfl)) d_M_keep_19 ⟨Nat.zero_le _, Nat.zero_le _⟩) hS (fun q _ h => hFc q h) hFc (fun r7 u t H1 locs ht hvm hw hB1 hz1 hk1 hS => ?_)
        obtain ⟨hw1, hw2⟩ := hw
        subst hw1
        subst hw2
        have hP : va_P (dC, dI) vwC (mW k a (0, zC r, zW r, zG r, zP r, zS r, zH r, zR r, zO r, zD r, zL r)) H1 := by rw [← ht]; exact hB1
        have hD : va_D A (mW k a (0, zC r, zW r, zG r, zP r, zS r, zH r, zR r, zO r, zD r, zL r)) := mW_D hDk
        clear hFc hB1 hk1 hz1 ht hvm
        generalize H1 = H at hP hS ⊢
        refine lv_if_ne hx hb d_M_keep_22 rfl (fun h9 => absurd h9 (by decide)) (fun _ => ?_)
        refine lv_aload_n hx hb d_M_keep_25 rfl (lv_at hl 0 rfl) ?_
        refine lv_aload_n hx hb d_M_keep_26 rfl (lv_at hl 0 rfl) ?_
        refine va_get (D := (dC, dI)) (ci := 2) (v := .ref (a 8)) (C := R_M) (T := F_M) (N := 11) hx hb hB in_M hown hK hP 0 rfl rfl 8 (by decide) (hB _ bw_363) (fun _ h9 => h9) rfl d_M_keep_27 ?_
        refine lv_iload_n hx hb d_M_keep_30 rfl (lv_at hl 1 rfl) ?_
        refine va_zald hx hb hK hP 8 4 rfl rfl (pk_in j 8 (by omega)) d_M_keep_31 ?_
        refine W.eq (g2 := F0 m 32 ls [.int (bI (zO r j)), .ref (a 0)]) (by rw [cl_nI (by omega)]) ?_
        refine W.eq (g2 := F0 m 32 ls [.int (bI true), .ref (a 0)]) (by rw [ho]) ?_
        refine lv_if_ne hx hb d_M_keep_32 rfl (fun _ => ?_) (fun h9 => absurd h9 (by decide))
        refine lv_iconst (v := bI false) hx hb d_M_keep_39 (by decide) ?_
        refine lv_iconst (v := 2) hx hb d_M_keep_40 (by decide) ?_
        have hFc := va_free (wc := mW k a (0, zC r, zW r, zG r, zP r, zS r, zH r, zR r, zO r, zD r, zL r)) hD hS hA [0, 1, 2, 3, 4, 5, 6, 7, 8] rfl
        refine va_calli (va_runV (As := [.int (bI false), .int 2]) (rest := []) ⟨hx, hb, hml, hown, hB⟩ (m_M_fails_f l dC dI k a _ (0, zC r, zW r, zG r, zP r, zS r, zH r, zR r, zO r, zD r, zL r) 2 rfl) (cwV 2 hB (BIG_V bw_394 bw_395 bw_10 bw_18 bw_396) rfl rfl rfl ⟨rfl, by decide, by decide, by decide +kernel⟩ ⟨Nat.le_of_ble_eq_true rfl, Nat.le_of_ble_eq_true rfl⟩) (mPc_pre _ hP hK hD) rfl rfl hl.1 rfl (lv_room (Nat.le_of_ble_eq_true rfl)) d_M_keep_41 ⟨Nat.zero_le _, Nat.zero_le _⟩) hS (fun q _ h => hFc q h) hFc (fun r7 u t H1 locs ht hvm hw hB1 hz1 hk1 hS => ?_)
        obtain ⟨hw1, hw2⟩ := hw
        subst hw1
        subst hw2
        have hP : va_P (dC, dI) vwC (mW k a (0, zC r, zW r, zG r, zP r, zS r, zH r, zR r, zO r, zD r, zL r)) H1 := by rw [← ht]; exact hB1
        have hD : va_D A (mW k a (0, zC r, zW r, zG r, zP r, zS r, zH r, zR r, zO r, zD r, zL r)) := mW_D hDk
        clear hFc hB1 hk1 hz1 ht hvm
        generalize H1 = H at hP hS ⊢
        refine lv_if_ne hx hb d_M_keep_44 rfl (fun h9 => absurd h9 (by decide)) (fun _ => ?_)
        refine lv_aload_n hx hb d_M_keep_47 rfl (lv_at hl 0 rfl) ?_
        refine lv_aload_n hx hb d_M_keep_48 rfl (lv_at hl 0 rfl) ?_
        refine va_get (D := (dC, dI)) (ci := 2) (v := .ref (a 4)) (C := R_M) (T := F_M) (N := 11) hx hb hB in_M hown hK hP 0 rfl rfl 4 (by decide) (hB _ bw_359) (fun _ h9 => h9) rfl d_M_keep_49 ?_
        refine lv_iload_n hx hb d_M_keep_52 rfl (lv_at hl 1 rfl) ?_
        refine va_iald hx hb hK hP 4 0 rfl rfl (pk_in j 8 (by omega)) d_M_keep_53 ?_
        refine W.eq (g2 := F0 m 54 ls [.int (nI (zP r j)), .ref (a 0)]) (by rw [cl_nI (by omega)]) ?_
        refine lv_iconst (v := nI 1) hx hb d_M_keep_54 (by decide) ?_
        refine lv_icmp_ne hx hb d_M_keep_55 rfl (fun h9 => absurd h9 (fun q => q h2)) (fun _ => ?_)
        refine lv_iconst (v := bI true) hx hb d_M_keep_58 (by decide) ?_
        refine lv_goto hx hb d_M_keep_59 rfl ?_
        refine lv_iconst (v := 3) hx hb d_M_keep_63 (by decide) ?_
        have hFc := va_free (wc := mW k a (0, zC r, zW r, zG r, zP r, zS r, zH r, zR r, zO r, zD r, zL r)) hD hS hA [0, 1, 2, 3, 4, 5, 6, 7, 8] rfl
        refine va_calli (va_runV (As := [.int (bI true), .int 3]) (rest := []) ⟨hx, hb, hml, hown, hB⟩ (m_M_fails_t l dC dI k a _ (0, zC r, zW r, zG r, zP r, zS r, zH r, zR r, zO r, zD r, zL r) 3 rfl (by decide)) (cwV 2 hB (BIG_V bw_394 bw_395 bw_10 bw_18 bw_396) rfl rfl rfl ⟨rfl, by decide, by decide, by decide +kernel⟩ ⟨Nat.le_of_ble_eq_true rfl, Nat.le_of_ble_eq_true rfl⟩) (mPc_pre _ hP hK hD) rfl rfl hl.1 rfl (lv_room (Nat.le_of_ble_eq_true rfl)) d_M_keep_64 ⟨Nat.zero_le _, Nat.zero_le _⟩) hS (fun q _ h => hFc q h) hFc (fun r7 u t H1 locs ht hvm hw hB1 hz1 hk1 hS => ?_)
        obtain ⟨hw1, hw2⟩ := hw
        subst hw1
        subst hw2
        have hP : va_P (dC, dI) vwC (mW k a (zErr (0, zC r, zW r, zG r, zP r, zS r, zH r, zR r, zO r, zD r, zL r) 3)) H1 := by rw [← ht]; exact hB1
        have hD : va_D A (mW k a (zErr (0, zC r, zW r, zG r, zP r, zS r, zH r, zR r, zO r, zD r, zL r) 3)) := mW_D hDk
        clear hFc hB1 hk1 hz1 ht hvm
        generalize H1 = H at hP hS ⊢
        have hP : va_P (dC, dI) vwC (mW k a (3, zC r, zW r, zG r, zP r, zS r, zH r, zR r, zO r, zD r, zL r)) H := hP
        have hD : va_D A (mW k a (3, zC r, zW r, zG r, zP r, zS r, zH r, zR r, zO r, zD r, zL r)) := hD
        refine lv_if_eq hx hb d_M_keep_67 rfl (fun h9 => absurd h9 (by decide)) (fun _ => ?_)
        exact W.vret hx hb hr (fun t ht hW => ⟨⟨(3, zC r, zW r, zG r, zP r, zS r, zH r, zR r, zO r, zD r, zL r), rfl, by unfold zKeep; rw [hq]; dsimp only; rw [if_neg (by rw [ho]; decide)]; rw [if_pos h1]; first | done | rfl, by show va_P (dC, dI) vwC _ t.heap; rw [ht]; exact hP⟩, hS.F ht⟩) hS.2.2 d_M_keep_70
      · have h2 : ¬ nI (zP r j) = nI 1 := fun q => h1 ((nI_eq (by omega) (by omega)).mp q)
        have hup : va_up (zP r) j (zP r j - 1) j = zP r j - 1 := va_up_self _ _ _
        have hat : (5 * j + zP r j - 1) * 32 + 32 ≤ 1280 := by omega
        have hz0 : zAt r j 0 + 32 ≤ 1280 ∧ 32 ≤ zAt r j 0 + 32 := by unfold zAt; omega
        have hz1 : 32 ≤ zAt r j 0 := by unfold zAt; omega
        refine lv_aload_n hx hb d_M_keep_0 rfl (lv_at hl 0 rfl) ?_
        refine lv_iconst (v := 0) hx hb d_M_keep_1 (by decide) ?_
        refine va_put (D := (dC, dI)) (ci := 2) (v := .int 0) (ty := .int) (C := R_M) (T := F_M) (N := 11) hx hb hB in_M tf_M ty_M nm_M hown hK hP hD hS 0 rfl rfl 0 (by decide) (hB _ bw_355) (fun _ h9 => h9) rfl (by decide +kernel) rfl rfl (Nat.le_of_ble_eq_true rfl) d_M_keep_2 (fun H locs hP hD hS => ?_)
        have hP : va_P (dC, dI) vwC (mW k a (0, zC r, zW r, zG r, zP r, zS r, zH r, zR r, zO r, zD r, zL r)) H := hP
        have hD : va_D A (mW k a (0, zC r, zW r, zG r, zP r, zS r, zH r, zR r, zO r, zD r, zL r)) := hD
        refine lv_aload_n hx hb d_M_keep_5 rfl (lv_at hl 0 rfl) ?_
        refine lv_iload_n hx hb d_M_keep_6 rfl (lv_at hl 1 rfl) ?_
        refine vp_callSi (va_Run.run (va_runS (As := [.int (nI j)]) (rest := [.ref (a 0)]) ⟨hx, hb, hml, hown, hB⟩ (m_M_isOne l (nI j)) (va_cwS 1 hB (BIG_SS bw_387 bw_388 bw_18 bw_389) rfl rfl rfl ⟨by decide, by decide, by decide +kernel⟩ ⟨Nat.le_of_ble_eq_true rfl, Nat.le_of_ble_eq_true rfl⟩) preEq rfl rfl hl.1 rfl (lv_room (Nat.le_of_ble_eq_true rfl)) d_M_keep_7 ⟨Nat.zero_le _, Nat.zero_le _⟩)) (fun r7 hr7 => ?_)
        refine W.eq (g2 := F0 m 10 ls [.int (bI true), .ref (a 0)]) (by rw [hr7, hq]; rfl) ?_
        refine lv_if_ne hx hb d_M_keep_10 rfl (fun _ => ?_) (fun h9 => absurd h9 (by decide))
        refine lv_iconst (v := bI false) hx hb d_M_keep_17 (by decide) ?_
        refine lv_iconst (v := 1) hx hb d_M_keep_18 (by decide) ?_
        have hFc := va_free (wc := mW k a (0, zC r, zW r, zG r, zP r, zS r, zH r, zR r, zO r, zD r, zL r)) hD hS hA [0, 1, 2, 3, 4, 5, 6, 7, 8] rfl
        refine va_calli (va_runV (As := [.int (bI false), .int 1]) (rest := []) ⟨hx, hb, hml, hown, hB⟩ (m_M_fails_f l dC dI k a _ (0, zC r, zW r, zG r, zP r, zS r, zH r, zR r, zO r, zD r, zL r) 1 rfl) (cwV 2 hB (BIG_V bw_394 bw_395 bw_10 bw_18 bw_396) rfl rfl rfl ⟨rfl, by decide, by decide, by decide +kernel⟩ ⟨Nat.le_of_ble_eq_true rfl, Nat.le_of_ble_eq_true rfl⟩) (mPc_pre _ hP hK hD) rfl rfl hl.1 rfl (lv_room (Nat.le_of_ble_eq_true rfl)) d_M_keep_19 ⟨Nat.zero_le _, Nat.zero_le _⟩) hS (fun q _ h => hFc q h) hFc (fun r7 u t H1 locs ht hvm hw hB1 hz1 hk1 hS => ?_)
        obtain ⟨hw1, hw2⟩ := hw
        subst hw1
        subst hw2
        have hP : va_P (dC, dI) vwC (mW k a (0, zC r, zW r, zG r, zP r, zS r, zH r, zR r, zO r, zD r, zL r)) H1 := by rw [← ht]; exact hB1
        have hD : va_D A (mW k a (0, zC r, zW r, zG r, zP r, zS r, zH r, zR r, zO r, zD r, zL r)) := mW_D hDk
        clear hFc hB1 hk1 hz1 ht hvm
        generalize H1 = H at hP hS ⊢
        refine lv_if_ne hx hb d_M_keep_22 rfl (fun h9 => absurd h9 (by decide)) (fun _ => ?_)
        refine lv_aload_n hx hb d_M_keep_25 rfl (lv_at hl 0 rfl) ?_
        refine lv_aload_n hx hb d_M_keep_26 rfl (lv_at hl 0 rfl) ?_
        refine va_get (D := (dC, dI)) (ci := 2) (v := .ref (a 8)) (C := R_M) (T := F_M) (N := 11) hx hb hB in_M hown hK hP 0 rfl rfl 8 (by decide) (hB _ bw_363) (fun _ h9 => h9) rfl d_M_keep_27 ?_
        refine lv_iload_n hx hb d_M_keep_30 rfl (lv_at hl 1 rfl) ?_
        refine va_zald hx hb hK hP 8 4 rfl rfl (pk_in j 8 (by omega)) d_M_keep_31 ?_
        refine W.eq (g2 := F0 m 32 ls [.int (bI (zO r j)), .ref (a 0)]) (by rw [cl_nI (by omega)]) ?_
        refine W.eq (g2 := F0 m 32 ls [.int (bI true), .ref (a 0)]) (by rw [ho]) ?_
        refine lv_if_ne hx hb d_M_keep_32 rfl (fun _ => ?_) (fun h9 => absurd h9 (by decide))
        refine lv_iconst (v := bI false) hx hb d_M_keep_39 (by decide) ?_
        refine lv_iconst (v := 2) hx hb d_M_keep_40 (by decide) ?_
        have hFc := va_free (wc := mW k a (0, zC r, zW r, zG r, zP r, zS r, zH r, zR r, zO r, zD r, zL r)) hD hS hA [0, 1, 2, 3, 4, 5, 6, 7, 8] rfl
        refine va_calli (va_runV (As := [.int (bI false), .int 2]) (rest := []) ⟨hx, hb, hml, hown, hB⟩ (m_M_fails_f l dC dI k a _ (0, zC r, zW r, zG r, zP r, zS r, zH r, zR r, zO r, zD r, zL r) 2 rfl) (cwV 2 hB (BIG_V bw_394 bw_395 bw_10 bw_18 bw_396) rfl rfl rfl ⟨rfl, by decide, by decide, by decide +kernel⟩ ⟨Nat.le_of_ble_eq_true rfl, Nat.le_of_ble_eq_true rfl⟩) (mPc_pre _ hP hK hD) rfl rfl hl.1 rfl (lv_room (Nat.le_of_ble_eq_true rfl)) d_M_keep_41 ⟨Nat.zero_le _, Nat.zero_le _⟩) hS (fun q _ h => hFc q h) hFc (fun r7 u t H1 locs ht hvm hw hB1 hz1 hk1 hS => ?_)
        obtain ⟨hw1, hw2⟩ := hw
        subst hw1
        subst hw2
        have hP : va_P (dC, dI) vwC (mW k a (0, zC r, zW r, zG r, zP r, zS r, zH r, zR r, zO r, zD r, zL r)) H1 := by rw [← ht]; exact hB1
        have hD : va_D A (mW k a (0, zC r, zW r, zG r, zP r, zS r, zH r, zR r, zO r, zD r, zL r)) := mW_D hDk
        clear hFc hB1 hk1 hz1 ht hvm
        generalize H1 = H at hP hS ⊢
        refine lv_if_ne hx hb d_M_keep_44 rfl (fun h9 => absurd h9 (by decide)) (fun _ => ?_)
        refine lv_aload_n hx hb d_M_keep_47 rfl (lv_at hl 0 rfl) ?_
        refine lv_aload_n hx hb d_M_keep_48 rfl (lv_at hl 0 rfl) ?_
        refine va_get (D := (dC, dI)) (ci := 2) (v := .ref (a 4)) (C := R_M) (T := F_M) (N := 11) hx hb hB in_M hown hK hP 0 rfl rfl 4 (by decide) (hB _ bw_359) (fun _ h9 => h9) rfl d_M_keep_49 ?_
        refine lv_iload_n hx hb d_M_keep_52 rfl (lv_at hl 1 rfl) ?_
        refine va_iald hx hb hK hP 4 0 rfl rfl (pk_in j 8 (by omega)) d_M_keep_53 ?_
        refine W.eq (g2 := F0 m 54 ls [.int (nI (zP r j)), .ref (a 0)]) (by rw [cl_nI (by omega)]) ?_
        refine lv_iconst (v := nI 1) hx hb d_M_keep_54 (by decide) ?_
        refine lv_icmp_ne hx hb d_M_keep_55 rfl (fun _ => ?_) (fun h9 => absurd h9 (h2))
        refine lv_iconst (v := bI false) hx hb d_M_keep_62 (by decide) ?_
        refine lv_iconst (v := 3) hx hb d_M_keep_63 (by decide) ?_
        have hFc := va_free (wc := mW k a (0, zC r, zW r, zG r, zP r, zS r, zH r, zR r, zO r, zD r, zL r)) hD hS hA [0, 1, 2, 3, 4, 5, 6, 7, 8] rfl
        refine va_calli (va_runV (As := [.int (bI false), .int 3]) (rest := []) ⟨hx, hb, hml, hown, hB⟩ (m_M_fails_f l dC dI k a _ (0, zC r, zW r, zG r, zP r, zS r, zH r, zR r, zO r, zD r, zL r) 3 rfl) (cwV 2 hB (BIG_V bw_394 bw_395 bw_10 bw_18 bw_396) rfl rfl rfl ⟨rfl, by decide, by decide, by decide +kernel⟩ ⟨Nat.le_of_ble_eq_true rfl, Nat.le_of_ble_eq_true rfl⟩) (mPc_pre _ hP hK hD) rfl rfl hl.1 rfl (lv_room (Nat.le_of_ble_eq_true rfl)) d_M_keep_64 ⟨Nat.zero_le _, Nat.zero_le _⟩) hS (fun q _ h => hFc q h) hFc (fun r7 u t H1 locs ht hvm hw hB1 hz1 hk1 hS => ?_)
        obtain ⟨hw1, hw2⟩ := hw
        subst hw1
        subst hw2
        have hP : va_P (dC, dI) vwC (mW k a (0, zC r, zW r, zG r, zP r, zS r, zH r, zR r, zO r, zD r, zL r)) H1 := by rw [← ht]; exact hB1
        have hD : va_D A (mW k a (0, zC r, zW r, zG r, zP r, zS r, zH r, zR r, zO r, zD r, zL r)) := mW_D hDk
        clear hFc hB1 hk1 hz1 ht hvm
        generalize H1 = H at hP hS ⊢
        refine lv_if_eq hx hb d_M_keep_67 rfl (fun _ => ?_) (fun h9 => absurd (by decide) h9)
        refine lv_aload_n hx hb d_M_keep_71 rfl (lv_at hl 0 rfl) ?_
        refine va_get (D := (dC, dI)) (ci := 2) (v := .ref (a 4)) (C := R_M) (T := F_M) (N := 11) hx hb hB in_M hown hK hP 0 rfl rfl 4 (by decide) (hB _ bw_359) (fun _ h9 => h9) rfl d_M_keep_72 ?_
        refine lv_iload_n hx hb d_M_keep_75 rfl (lv_at hl 1 rfl) ?_
        refine lv_dup2_11 hx hb d_M_keep_76 rfl rfl ?_
        refine va_iald hx hb hK hP 4 0 rfl rfl (pk_in j 8 (by omega)) d_M_keep_77 ?_
        refine W.eq (g2 := F0 m 78 ls [.int (nI (zP r j)), .int (nI j), .ref (a 4)]) (by rw [cl_nI (by omega)]) ?_
        refine lv_iconst (v := nI 1) hx hb d_M_keep_78 (by decide) ?_
        refine lv_isub hx hb d_M_keep_79 ?_
        refine W.eq (g2 := F0 m 80 ls [.int (nI ((zP r j) - 1)), .int (nI j), .ref (a 4)]) (by rw [pk_sub (by omega)]) ?_
        refine va_iast hx hb hK hP hD hS 4 0 rfl rfl (pk_in j 8 (by omega)) d_M_keep_80 (fun H locs hP hD hS => ?_)
        rw [cl_nI (by omega), nI_upd] at hP
        have hP : va_P (dC, dI) vwC (mW k a (0, zC r, zW r, zG r, va_up (zP r) j ((zP r j) - 1), zS r, zH r, zR r, zO r, zD r, zL r)) H := hP
        have hD : va_D A (mW k a (0, zC r, zW r, zG r, va_up (zP r) j ((zP r j) - 1), zS r, zH r, zR r, zO r, zD r, zL r)) := mW_D hDk
        refine lv_aload_n hx hb d_M_keep_81 rfl (lv_at hl 0 rfl) ?_
        refine lv_aload_n hx hb d_M_keep_82 rfl (lv_at hl 0 rfl) ?_
        refine lv_iload_n hx hb d_M_keep_83 rfl (lv_at hl 1 rfl) ?_
        refine lv_iconst (v := nI 0) hx hb d_M_keep_84 (by decide) ?_
        refine vp_callSi (va_Run.run (va_runV (As := [.int (nI j), .int (nI 0)]) (rest := [.ref (a 0)]) ⟨hx, hb, hml, hown, hB⟩ (m_M_last l dC dI k a (0, zC r, zW r, zG r, va_up (zP r) j ((zP r j) - 1), zS r, zH r, zR r, zO r, zD r, zL r) j 0 (by omega) (by omega) (by show 1 ≤ va_up (zP r) j (zP r j - 1) j; rw [hup]; omega) (by show va_up (zP r) j (zP r j - 1) j ≤ 5; rw [hup]; omega)) (cwV 2 hB (BIG_V bw_397 bw_398 bw_11 bw_18 bw_399) rfl rfl rfl ⟨rfl, by decide, by decide, by decide +kernel⟩ ⟨Nat.le_of_ble_eq_true rfl, Nat.le_of_ble_eq_true rfl⟩) (mRc_pre _ hP hK) rfl rfl hl.1 rfl (lv_room (Nat.le_of_ble_eq_true rfl)) d_M_keep_85 ⟨Nat.zero_le _, Nat.zero_le _⟩)) (fun r7 hr7 => ?_)
        refine W.eq (g2 := F0 m 88 ls [.int (nI (zAt r j 0 - 32)), .ref (a 0)]) (by rw [hr7]; show F0 _ _ _ (Value.int (nI ((5 * j + va_up (zP r) j (zP r j - 1) j - 1) * 32 + 0)) :: _) = _; rw [hup, show (5 * j + (zP r j - 1) - 1) * 32 + 0 = zAt r j 0 - 32 by unfold zAt; omega]) ?_
        refine lv_bipush (v := nI 32) hx hb d_M_keep_88 (by decide) ?_
        refine lv_iadd hx hb d_M_keep_90 ?_
        refine W.eq (g2 := F0 m 91 ls [.int (nI ((zAt r j 0 - 32) + 32)), .ref (a 0)]) (by rw [nI_add]) ?_
        refine lv_aload_n hx hb d_M_keep_91 rfl (lv_at hl 0 rfl) ?_
        refine lv_iload_n hx hb d_M_keep_92 rfl (lv_at hl 1 rfl) ?_
        refine lv_iconst (v := nI 0) hx hb d_M_keep_93 (by decide) ?_
        refine vp_callSi (va_Run.run (va_runV (As := [.int (nI j), .int (nI 0)]) (rest := [.int (nI ((zAt r j 0 - 32) + 32)), .ref (a 0)]) ⟨hx, hb, hml, hown, hB⟩ (m_M_last l dC dI k a (0, zC r, zW r, zG r, va_up (zP r) j ((zP r j) - 1), zS r, zH r, zR r, zO r, zD r, zL r) j 0 (by omega) (by omega) (by show 1 ≤ va_up (zP r) j (zP r j - 1) j; rw [hup]; omega) (by show va_up (zP r) j (zP r j - 1) j ≤ 5; rw [hup]; omega)) (cwV 2 hB (BIG_V bw_397 bw_398 bw_11 bw_18 bw_399) rfl rfl rfl ⟨rfl, by decide, by decide, by decide +kernel⟩ ⟨Nat.le_of_ble_eq_true rfl, Nat.le_of_ble_eq_true rfl⟩) (mRc_pre _ hP hK) rfl rfl hl.1 rfl (lv_room (Nat.le_of_ble_eq_true rfl)) d_M_keep_94 ⟨Nat.zero_le _, Nat.zero_le _⟩)) (fun r7 hr7 => ?_)
        refine W.eq (g2 := F0 m 97 ls [.int (nI (zAt r j 0 - 32)), .int (nI ((zAt r j 0 - 32) + 32)), .ref (a 0)]) (by rw [hr7]; show F0 _ _ _ (Value.int (nI ((5 * j + va_up (zP r) j (zP r j - 1) j - 1) * 32 + 0)) :: _) = _; rw [hup, show (5 * j + (zP r j - 1) - 1) * 32 + 0 = zAt r j 0 - 32 by unfold zAt; omega]) ?_
        refine W.eq (g2 := F0 m 97 ls [.int (nI (zAt r j 0 - 32)), .int (nI (zAt r j 0)), .ref (a 0)]) (by rw [show ((zAt r j 0 - 32) + 32) = zAt r j 0 by omega]) ?_
        have hFc := va_free (wc := mW k a (0, zC r, zW r, zG r, va_up (zP r) j ((zP r j) - 1), zS r, zH r, zR r, zO r, zD r, zL r)) hD hS hA [0, 1, 2, 3, 4, 5, 6, 7, 8] rfl
        refine va_callv (va_runV (As := [.int (nI (zAt r j 0)), .int (nI (zAt r j 0 - 32))]) (rest := []) ⟨hx, hb, hml, hown, hB⟩ (m_M_copy l dC dI k a _ (0, zC r, zW r, zG r, va_up (zP r) j ((zP r j) - 1), zS r, zH r, zR r, zO r, zD r, zL r) (zAt r j 0) (zAt r j 0 - 32) (by omega) (by omega)) (cwV 2 hB (BIG_V bw_419 bw_420 bw_13 bw_18 bw_421) rfl rfl rfl ⟨rfl, by decide, by decide, by decide +kernel⟩ ⟨Nat.le_of_ble_eq_true rfl, Nat.le_of_ble_eq_true rfl⟩) (mPc_pre _ hP hK hD) rfl rfl hl.1 rfl (lv_room (Nat.le_of_ble_eq_true rfl)) d_M_keep_97 ⟨Nat.zero_le _, Nat.zero_le _⟩) hS (fun q _ h => hFc q h) hFc (fun u t H1 locs ht hvm hw hB1 hz1 hk1 hS => ?_)
        subst hw
        have hP : va_P (dC, dI) vwC (mW k a (0, zC r, zCpL (zW r) (zAt r j 0) (zAt r j 0 - 32) 32, zG r, va_up (zP r) j (zP r j - 1), zS r, zCpB (zH r) (zAt r j 0) (zAt r j 0 - 32) 32, zR r, zO r, zD r, zL r)) H1 := by rw [← ht]; exact hB1
        have hD : va_D A (mW k a (0, zC r, zCpL (zW r) (zAt r j 0) (zAt r j 0 - 32) 32, zG r, va_up (zP r) j (zP r j - 1), zS r, zCpB (zH r) (zAt r j 0) (zAt r j 0 - 32) 32, zR r, zO r, zD r, zL r)) := mW_D hDk
        clear hFc hB1 hk1 hz1 ht hvm
        generalize H1 = H at hP hS ⊢
        exact W.vret hx hb hr (fun t ht hW => ⟨⟨(0, zC r, zCpL (zW r) (zAt r j 0) (zAt r j 0 - 32) 32, zG r, va_up (zP r) j ((zP r j) - 1), zS r, zCpB (zH r) (zAt r j 0) (zAt r j 0 - 32) 32, zR r, zO r, zD r, zL r), rfl, by unfold zKeep; rw [hq]; dsimp only; rw [if_neg (by rw [ho]; decide)]; rw [if_neg h1]; first | done | rfl, by show va_P (dC, dI) vwC _ t.heap; rw [ht]; exact hP⟩, hS.F ht⟩) hS.2.2 d_M_keep_100
end
section
/-! The reference: the methods with a loop. -/
theorem zSt_cg {r r2 : xRS} {t : Nat} (h1 : zR r = zR r2) (h2 : zS r = zS r2) (h3 : zG r = zG r2) : ∀ n, zSt r t n = zSt r2 t n
  | 0 => rfl
  | n + 1 => by
    show (zSt r t n || (zR r (32 * t + n) && decide (zS r (32 * t + n) ≠ zG r n))) = (zSt r2 t n || (zR r2 (32 * t + n) && decide (zS r2 (32 * t + n) ≠ zG r2 n)))
    rw [zSt_cg h1 h2 h3 n, h1, h2, h3]
set_option maxHeartbeats 4000000 in
set_option maxRecDepth 100000 in
theorem m_M_begin (l : Launch) (dC : Nat → ClassId) (dI : Nat → Nat → Nat) (k : Nat → ClassId) (a : Nat → Nat) (sz : Nat) (r : xRS) (tt : Int32) : Met l y_M_begin w_M_begin (rmx 2 0 0 80) (mPc dC dI k a sz r [.ref (a 0), .int tt]) (va_Qv (fun u => u = zBegin r tt) (mB dC dI k a) (va_A (mW k a r) sz)) 0 0 (va_A (mW k a r) sz) := by
  refine Met.ofW (cc := c_M_begin) (maxL := 3) (ret := none) (by decide) rfl ?_
  intro p e s m args below meth c s₁ B hml hv
  obtain ⟨rfl, hsz, hP, hK, hD0⟩ := hv
  have hx := B.exec
  have hb := B.bytes
  have hr := B.returns
  have hts := atoms_spec (ws := w_M_begin) B.pre
  have hB : ∀ w ∈ BIG, w.before _ s = true := fun w h => hts w (List.mem_cons_of_mem _ h)
  have hown : s.vm.findClass R_M = some m.cls := findClass_of_methodNamed B.named
  have hlocks := B.notSynchronized
  have hl := lv_entry ([.ref (a 0), .int tt]) (n := 3) (Nat.le_of_ble_eq_true rfl)
  rw [lg_entry_eq]
  generalize (lg_sl ([.ref (a 0), .int tt]) ++ List.replicate (3 - (lg_sl ([.ref (a 0), .int tt])).length) Slot.unset).toArray = ls at hl ⊢
  have hl : lv_has ls 3 [(0, .ref (a 0)), (1, .int tt)] := hl
  subst hsz
  have hD := hD0.self (sz := s.heap.size)
  generalize hAe : va_A (mW k a r) s.heap.size = A at hD ⊢
  have hA : ∀ q : Nat, s.heap.size ≤ q → A q := fun q h => by rw [← hAe]; exact Or.inr h
  have hS : va_S A s.heap s.heap [] := va_S.rf
  have hDk := hD
  cases hq : ix 8 tt with
  | none =>
    refine lv_aload_n hx hb d_M_begin_0 rfl (lv_at hl 0 rfl) ?_
    refine lv_iconst (v := 0) hx hb d_M_begin_1 (by decide) ?_
    refine va_put (D := (dC, dI)) (ci := 2) (v := .int 0) (ty := .int) (C := R_M) (T := F_M) (N := 11) hx hb hB in_M tf_M ty_M nm_M hown hK hP hD hS 0 rfl rfl 0 (by decide) (hB _ bw_355) (fun _ h9 => h9) rfl (by decide +kernel) rfl rfl (Nat.le_of_ble_eq_true rfl) d_M_begin_2 (fun H locs hP hD hS => ?_)
    have hP : va_P (dC, dI) vwC (mW k a (0, zC r, zW r, zG r, zP r, zS r, zH r, zR r, zO r, zD r, zL r)) H := hP
    have hD : va_D A (mW k a (0, zC r, zW r, zG r, zP r, zS r, zH r, zR r, zO r, zD r, zL r)) := hD
    refine lv_aload_n hx hb d_M_begin_5 rfl (lv_at hl 0 rfl) ?_
    refine lv_iload_n hx hb d_M_begin_6 rfl (lv_at hl 1 rfl) ?_
    refine vp_callSi (va_Run.run (va_runS (As := [.int tt]) (rest := [.ref (a 0)]) ⟨hx, hb, hml, hown, hB⟩ (m_M_isOne l tt) (va_cwS 1 hB (BIG_SS bw_387 bw_388 bw_18 bw_389) rfl rfl rfl ⟨by decide, by decide, by decide +kernel⟩ ⟨Nat.le_of_ble_eq_true rfl, Nat.le_of_ble_eq_true rfl⟩) preEq rfl rfl hl.1 rfl (lv_room (Nat.le_of_ble_eq_true rfl)) d_M_begin_7 ⟨Nat.zero_le _, Nat.zero_le _⟩)) (fun r7 hr7 => ?_)
    refine W.eq (g2 := F0 m 10 ls [.int (bI false), .ref (a 0)]) (by rw [hr7, hq]; rfl) ?_
    refine lv_if_ne hx hb d_M_begin_10 rfl (fun h9 => absurd h9 (by decide)) (fun _ => ?_)
    refine lv_iconst (v := bI true) hx hb d_M_begin_13 (by decide) ?_
    refine lv_goto hx hb d_M_begin_14 rfl ?_
    refine lv_iconst (v := 1) hx hb d_M_begin_18 (by decide) ?_
    have hFc := va_free (wc := mW k a (0, zC r, zW r, zG r, zP r, zS r, zH r, zR r, zO r, zD r, zL r)) hD hS hA [0, 1, 2, 3, 4, 5, 6, 7, 8] rfl
    refine va_calli (va_runV (As := [.int (bI true), .int 1]) (rest := []) ⟨hx, hb, hml, hown, hB⟩ (m_M_fails_t l dC dI k a _ (0, zC r, zW r, zG r, zP r, zS r, zH r, zR r, zO r, zD r, zL r) 1 rfl (by decide)) (cwV 2 hB (BIG_V bw_394 bw_395 bw_10 bw_18 bw_396) rfl rfl rfl ⟨rfl, by decide, by decide, by decide +kernel⟩ ⟨Nat.le_of_ble_eq_true rfl, Nat.le_of_ble_eq_true rfl⟩) (mPc_pre _ hP hK hD) rfl rfl hl.1 rfl (lv_room (Nat.le_of_ble_eq_true rfl)) d_M_begin_19 ⟨Nat.zero_le _, Nat.zero_le _⟩) hS (fun q _ h => hFc q h) hFc (fun r7 u t H1 locs ht hvm hw hB1 hz1 hk1 hS => ?_)
    obtain ⟨hw1, hw2⟩ := hw
    subst hw1
    subst hw2
    have hP : va_P (dC, dI) vwC (mW k a (zErr (0, zC r, zW r, zG r, zP r, zS r, zH r, zR r, zO r, zD r, zL r) 1)) H1 := by rw [← ht]; exact hB1
    have hD : va_D A (mW k a (zErr (0, zC r, zW r, zG r, zP r, zS r, zH r, zR r, zO r, zD r, zL r) 1)) := mW_D hDk
    clear hFc hB1 hk1 hz1 ht hvm
    generalize H1 = H at hP hS ⊢
    have hP : va_P (dC, dI) vwC (mW k a (1, zC r, zW r, zG r, zP r, zS r, zH r, zR r, zO r, zD r, zL r)) H := hP
    have hD : va_D A (mW k a (1, zC r, zW r, zG r, zP r, zS r, zH r, zR r, zO r, zD r, zL r)) := hD
    refine lv_if_ne hx hb d_M_begin_22 rfl (fun _ => ?_) (fun h9 => absurd h9 (by decide))
    exact W.vret hx hb hr (fun t ht hW => ⟨⟨(1, zC r, zW r, zG r, zP r, zS r, zH r, zR r, zO r, zD r, zL r), rfl, by unfold zBegin; rw [hq]; first | done | rfl, by show va_P (dC, dI) vwC _ t.heap; rw [ht]; exact hP⟩, hS.F ht⟩) hS.2.2 d_M_begin_39
  | some j =>
    obtain ⟨hj, htj⟩ := ix_some (by decide) hq
    subst htj
    cases ho : zO r j with
    | true =>
      refine lv_aload_n hx hb d_M_begin_0 rfl (lv_at hl 0 rfl) ?_
      refine lv_iconst (v := 0) hx hb d_M_begin_1 (by decide) ?_
      refine va_put (D := (dC, dI)) (ci := 2) (v := .int 0) (ty := .int) (C := R_M) (T := F_M) (N := 11) hx hb hB in_M tf_M ty_M nm_M hown hK hP hD hS 0 rfl rfl 0 (by decide) (hB _ bw_355) (fun _ h9 => h9) rfl (by decide +kernel) rfl rfl (Nat.le_of_ble_eq_true rfl) d_M_begin_2 (fun H locs hP hD hS => ?_)
      have hP : va_P (dC, dI) vwC (mW k a (0, zC r, zW r, zG r, zP r, zS r, zH r, zR r, zO r, zD r, zL r)) H := hP
      have hD : va_D A (mW k a (0, zC r, zW r, zG r, zP r, zS r, zH r, zR r, zO r, zD r, zL r)) := hD
      refine lv_aload_n hx hb d_M_begin_5 rfl (lv_at hl 0 rfl) ?_
      refine lv_iload_n hx hb d_M_begin_6 rfl (lv_at hl 1 rfl) ?_
      refine vp_callSi (va_Run.run (va_runS (As := [.int (nI j)]) (rest := [.ref (a 0)]) ⟨hx, hb, hml, hown, hB⟩ (m_M_isOne l (nI j)) (va_cwS 1 hB (BIG_SS bw_387 bw_388 bw_18 bw_389) rfl rfl rfl ⟨by decide, by decide, by decide +kernel⟩ ⟨Nat.le_of_ble_eq_true rfl, Nat.le_of_ble_eq_true rfl⟩) preEq rfl rfl hl.1 rfl (lv_room (Nat.le_of_ble_eq_true rfl)) d_M_begin_7 ⟨Nat.zero_le _, Nat.zero_le _⟩)) (fun r7 hr7 => ?_)
      refine W.eq (g2 := F0 m 10 ls [.int (bI true), .ref (a 0)]) (by rw [hr7, hq]; rfl) ?_
      refine lv_if_ne hx hb d_M_begin_10 rfl (fun _ => ?_) (fun h9 => absurd h9 (by decide))
      refine lv_iconst (v := bI false) hx hb d_M_begin_17 (by decide) ?_
      refine lv_iconst (v := 1) hx hb d_M_begin_18 (by decide) ?_
      have hFc := va_free (wc := mW k a (0, zC r, zW r, zG r, zP r, zS r, zH r, zR r, zO r, zD r, zL r)) hD hS hA [0, 1, 2, 3, 4, 5, 6, 7, 8] rfl
      refine va_calli (va_runV (As := [.int (bI false), .int 1]) (rest := []) ⟨hx, hb, hml, hown, hB⟩ (m_M_fails_f l dC dI k a _ (0, zC r, zW r, zG r, zP r, zS r, zH r, zR r, zO r, zD r, zL r) 1 rfl) (cwV 2 hB (BIG_V bw_394 bw_395 bw_10 bw_18 bw_396) rfl rfl rfl ⟨rfl, by decide, by decide, by decide +kernel⟩ ⟨Nat.le_of_ble_eq_true rfl, Nat.le_of_ble_eq_true rfl⟩) (mPc_pre _ hP hK hD) rfl rfl hl.1 rfl (lv_room (Nat.le_of_ble_eq_true rfl)) d_M_begin_19 ⟨Nat.zero_le _, Nat.zero_le _⟩) hS (fun q _ h => hFc q h) hFc (fun r7 u t H1 locs ht hvm hw hB1 hz1 hk1 hS => ?_)
      obtain ⟨hw1, hw2⟩ := hw
      subst hw1
      subst hw2
      have hP : va_P (dC, dI) vwC (mW k a (0, zC r, zW r, zG r, zP r, zS r, zH r, zR r, zO r, zD r, zL r)) H1 := by rw [← ht]; exact hB1
      have hD : va_D A (mW k a (0, zC r, zW r, zG r, zP r, zS r, zH r, zR r, zO r, zD r, zL r)) := mW_D hDk
      clear hFc hB1 hk1 hz1 ht hvm
      generalize H1 = H at hP hS ⊢
      refine lv_if_ne hx hb d_M_begin_22 rfl (fun h9 => absurd h9 (by decide)) (fun _ => ?_)
      refine lv_aload_n hx hb d_M_begin_25 rfl (lv_at hl 0 rfl) ?_
      refine lv_aload_n hx hb d_M_begin_26 rfl (lv_at hl 0 rfl) ?_
      refine va_get (D := (dC, dI)) (ci := 2) (v := .ref (a 8)) (C := R_M) (T := F_M) (N := 11) hx hb hB in_M hown hK hP 0 rfl rfl 8 (by decide) (hB _ bw_363) (fun _ h9 => h9) rfl d_M_begin_27 ?_
      refine lv_iload_n hx hb d_M_begin_30 rfl (lv_at hl 1 rfl) ?_
      refine va_zald hx hb hK hP 8 4 rfl rfl (pk_in j 8 (by omega)) d_M_begin_31 ?_
      refine W.eq (g2 := F0 m 32 ls [.int (bI (zO r j)), .ref (a 0)]) (by rw [cl_nI (by omega)]) ?_
      refine W.eq (g2 := F0 m 32 ls [.int (bI true), .ref (a 0)]) (by rw [ho]) ?_
      refine lv_iconst (v := 2) hx hb d_M_begin_32 (by decide) ?_
      have hFc := va_free (wc := mW k a (0, zC r, zW r, zG r, zP r, zS r, zH r, zR r, zO r, zD r, zL r)) hD hS hA [0, 1, 2, 3, 4, 5, 6, 7, 8] rfl
      refine va_calli (va_runV (As := [.int (bI true), .int 2]) (rest := []) ⟨hx, hb, hml, hown, hB⟩ (m_M_fails_t l dC dI k a _ (0, zC r, zW r, zG r, zP r, zS r, zH r, zR r, zO r, zD r, zL r) 2 rfl (by decide)) (cwV 2 hB (BIG_V bw_394 bw_395 bw_10 bw_18 bw_396) rfl rfl rfl ⟨rfl, by decide, by decide, by decide +kernel⟩ ⟨Nat.le_of_ble_eq_true rfl, Nat.le_of_ble_eq_true rfl⟩) (mPc_pre _ hP hK hD) rfl rfl hl.1 rfl (lv_room (Nat.le_of_ble_eq_true rfl)) d_M_begin_33 ⟨Nat.zero_le _, Nat.zero_le _⟩) hS (fun q _ h => hFc q h) hFc (fun r7 u t H1 locs ht hvm hw hB1 hz1 hk1 hS => ?_)
      obtain ⟨hw1, hw2⟩ := hw
      subst hw1
      subst hw2
      have hP : va_P (dC, dI) vwC (mW k a (zErr (0, zC r, zW r, zG r, zP r, zS r, zH r, zR r, zO r, zD r, zL r) 2)) H1 := by rw [← ht]; exact hB1
      have hD : va_D A (mW k a (zErr (0, zC r, zW r, zG r, zP r, zS r, zH r, zR r, zO r, zD r, zL r) 2)) := mW_D hDk
      clear hFc hB1 hk1 hz1 ht hvm
      generalize H1 = H at hP hS ⊢
      have hP : va_P (dC, dI) vwC (mW k a (2, zC r, zW r, zG r, zP r, zS r, zH r, zR r, zO r, zD r, zL r)) H := hP
      have hD : va_D A (mW k a (2, zC r, zW r, zG r, zP r, zS r, zH r, zR r, zO r, zD r, zL r)) := hD
      refine lv_if_eq hx hb d_M_begin_36 rfl (fun h9 => absurd h9 (by decide)) (fun _ => ?_)
      exact W.vret hx hb hr (fun t ht hW => ⟨⟨(2, zC r, zW r, zG r, zP r, zS r, zH r, zR r, zO r, zD r, zL r), rfl, by unfold zBegin; rw [hq]; dsimp only; rw [if_pos ho]; first | done | rfl, by show va_P (dC, dI) vwC _ t.heap; rw [ht]; exact hP⟩, hS.F ht⟩) hS.2.2 d_M_begin_39
    | false =>
      refine lv_aload_n hx hb d_M_begin_0 rfl (lv_at hl 0 rfl) ?_
      refine lv_iconst (v := 0) hx hb d_M_begin_1 (by decide) ?_
      refine va_put (D := (dC, dI)) (ci := 2) (v := .int 0) (ty := .int) (C := R_M) (T := F_M) (N := 11) hx hb hB in_M tf_M ty_M nm_M hown hK hP hD hS 0 rfl rfl 0 (by decide) (hB _ bw_355) (fun _ h9 => h9) rfl (by decide +kernel) rfl rfl (Nat.le_of_ble_eq_true rfl) d_M_begin_2 (fun H locs hP hD hS => ?_)
      have hP : va_P (dC, dI) vwC (mW k a (0, zC r, zW r, zG r, zP r, zS r, zH r, zR r, zO r, zD r, zL r)) H := hP
      have hD : va_D A (mW k a (0, zC r, zW r, zG r, zP r, zS r, zH r, zR r, zO r, zD r, zL r)) := hD
      refine lv_aload_n hx hb d_M_begin_5 rfl (lv_at hl 0 rfl) ?_
      refine lv_iload_n hx hb d_M_begin_6 rfl (lv_at hl 1 rfl) ?_
      refine vp_callSi (va_Run.run (va_runS (As := [.int (nI j)]) (rest := [.ref (a 0)]) ⟨hx, hb, hml, hown, hB⟩ (m_M_isOne l (nI j)) (va_cwS 1 hB (BIG_SS bw_387 bw_388 bw_18 bw_389) rfl rfl rfl ⟨by decide, by decide, by decide +kernel⟩ ⟨Nat.le_of_ble_eq_true rfl, Nat.le_of_ble_eq_true rfl⟩) preEq rfl rfl hl.1 rfl (lv_room (Nat.le_of_ble_eq_true rfl)) d_M_begin_7 ⟨Nat.zero_le _, Nat.zero_le _⟩)) (fun r7 hr7 => ?_)
      refine W.eq (g2 := F0 m 10 ls [.int (bI true), .ref (a 0)]) (by rw [hr7, hq]; rfl) ?_
      refine lv_if_ne hx hb d_M_begin_10 rfl (fun _ => ?_) (fun h9 => absurd h9 (by decide))
      refine lv_iconst (v := bI false) hx hb d_M_begin_17 (by decide) ?_
      refine lv_iconst (v := 1) hx hb d_M_begin_18 (by decide) ?_
      have hFc := va_free (wc := mW k a (0, zC r, zW r, zG r, zP r, zS r, zH r, zR r, zO r, zD r, zL r)) hD hS hA [0, 1, 2, 3, 4, 5, 6, 7, 8] rfl
      refine va_calli (va_runV (As := [.int (bI false), .int 1]) (rest := []) ⟨hx, hb, hml, hown, hB⟩ (m_M_fails_f l dC dI k a _ (0, zC r, zW r, zG r, zP r, zS r, zH r, zR r, zO r, zD r, zL r) 1 rfl) (cwV 2 hB (BIG_V bw_394 bw_395 bw_10 bw_18 bw_396) rfl rfl rfl ⟨rfl, by decide, by decide, by decide +kernel⟩ ⟨Nat.le_of_ble_eq_true rfl, Nat.le_of_ble_eq_true rfl⟩) (mPc_pre _ hP hK hD) rfl rfl hl.1 rfl (lv_room (Nat.le_of_ble_eq_true rfl)) d_M_begin_19 ⟨Nat.zero_le _, Nat.zero_le _⟩) hS (fun q _ h => hFc q h) hFc (fun r7 u t H1 locs ht hvm hw hB1 hz1 hk1 hS => ?_)
      obtain ⟨hw1, hw2⟩ := hw
      subst hw1
      subst hw2
      have hP : va_P (dC, dI) vwC (mW k a (0, zC r, zW r, zG r, zP r, zS r, zH r, zR r, zO r, zD r, zL r)) H1 := by rw [← ht]; exact hB1
      have hD : va_D A (mW k a (0, zC r, zW r, zG r, zP r, zS r, zH r, zR r, zO r, zD r, zL r)) := mW_D hDk
      clear hFc hB1 hk1 hz1 ht hvm
      generalize H1 = H at hP hS ⊢
      refine lv_if_ne hx hb d_M_begin_22 rfl (fun h9 => absurd h9 (by decide)) (fun _ => ?_)
      refine lv_aload_n hx hb d_M_begin_25 rfl (lv_at hl 0 rfl) ?_
      refine lv_aload_n hx hb d_M_begin_26 rfl (lv_at hl 0 rfl) ?_
      refine va_get (D := (dC, dI)) (ci := 2) (v := .ref (a 8)) (C := R_M) (T := F_M) (N := 11) hx hb hB in_M hown hK hP 0 rfl rfl 8 (by decide) (hB _ bw_363) (fun _ h9 => h9) rfl d_M_begin_27 ?_
      refine lv_iload_n hx hb d_M_begin_30 rfl (lv_at hl 1 rfl) ?_
      refine va_zald hx hb hK hP 8 4 rfl rfl (pk_in j 8 (by omega)) d_M_begin_31 ?_
      refine W.eq (g2 := F0 m 32 ls [.int (bI (zO r j)), .ref (a 0)]) (by rw [cl_nI (by omega)]) ?_
      refine W.eq (g2 := F0 m 32 ls [.int (bI false), .ref (a 0)]) (by rw [ho]) ?_
      refine lv_iconst (v := 2) hx hb d_M_begin_32 (by decide) ?_
      have hFc := va_free (wc := mW k a (0, zC r, zW r, zG r, zP r, zS r, zH r, zR r, zO r, zD r, zL r)) hD hS hA [0, 1, 2, 3, 4, 5, 6, 7, 8] rfl
      refine va_calli (va_runV (As := [.int (bI false), .int 2]) (rest := []) ⟨hx, hb, hml, hown, hB⟩ (m_M_fails_f l dC dI k a _ (0, zC r, zW r, zG r, zP r, zS r, zH r, zR r, zO r, zD r, zL r) 2 rfl) (cwV 2 hB (BIG_V bw_394 bw_395 bw_10 bw_18 bw_396) rfl rfl rfl ⟨rfl, by decide, by decide, by decide +kernel⟩ ⟨Nat.le_of_ble_eq_true rfl, Nat.le_of_ble_eq_true rfl⟩) (mPc_pre _ hP hK hD) rfl rfl hl.1 rfl (lv_room (Nat.le_of_ble_eq_true rfl)) d_M_begin_33 ⟨Nat.zero_le _, Nat.zero_le _⟩) hS (fun q _ h => hFc q h) hFc (fun r7 u t H1 locs ht hvm hw hB1 hz1 hk1 hS => ?_)
      obtain ⟨hw1, hw2⟩ := hw
      subst hw1
      subst hw2
      have hP : va_P (dC, dI) vwC (mW k a (0, zC r, zW r, zG r, zP r, zS r, zH r, zR r, zO r, zD r, zL r)) H1 := by rw [← ht]; exact hB1
      have hD : va_D A (mW k a (0, zC r, zW r, zG r, zP r, zS r, zH r, zR r, zO r, zD r, zL r)) := mW_D hDk
      clear hFc hB1 hk1 hz1 ht hvm
      generalize H1 = H at hP hS ⊢
      refine lv_if_eq hx hb d_M_begin_36 rfl (fun _ => ?_) (fun h9 => absurd (by decide) h9)
      refine lv_aload_n hx hb d_M_begin_40 rfl (lv_at hl 0 rfl) ?_
      refine va_get (D := (dC, dI)) (ci := 2) (v := .ref (a 8)) (C := R_M) (T := F_M) (N := 11) hx hb hB in_M hown hK hP 0 rfl rfl 8 (by decide) (hB _ bw_363) (fun _ h9 => h9) rfl d_M_begin_41 ?_
      refine lv_iload_n hx hb d_M_begin_44 rfl (lv_at hl 1 rfl) ?_
      refine lv_iconst (v := bI true) hx hb d_M_begin_45 (by decide) ?_
      refine va_zast hx hb hK hP hD hS 8 4 rfl rfl (pk_in j 8 (by omega)) d_M_begin_46 (fun H locs hP hD hS => ?_)
      rw [cl_nI (by omega), bI_upd] at hP
      have hP : va_P (dC, dI) vwC (mW k a (0, zC r, zW r, zG r, zP r, zS r, zH r, zR r, va_up (zO r) j true, zD r, zL r)) H := hP
      have hD : va_D A (mW k a (0, zC r, zW r, zG r, zP r, zS r, zH r, zR r, va_up (zO r) j true, zD r, zL r)) := mW_D hDk
      refine lv_aload_n hx hb d_M_begin_47 rfl (lv_at hl 0 rfl) ?_
      refine va_get (D := (dC, dI)) (ci := 2) (v := .ref (a 4)) (C := R_M) (T := F_M) (N := 11) hx hb hB in_M hown hK hP 0 rfl rfl 4 (by decide) (hB _ bw_359) (fun _ h9 => h9) rfl d_M_begin_48 ?_
      refine lv_iload_n hx hb d_M_begin_51 rfl (lv_at hl 1 rfl) ?_
      refine lv_iconst (v := nI 1) hx hb d_M_begin_52 (by decide) ?_
      refine va_iast hx hb hK hP hD hS 4 0 rfl rfl (pk_in j 8 (by omega)) d_M_begin_53 (fun H locs hP hD hS => ?_)
      rw [cl_nI (by omega), nI_upd] at hP
      have hP : va_P (dC, dI) vwC (mW k a (0, zC r, zW r, zG r, va_up (zP r) j 1, zS r, zH r, zR r, va_up (zO r) j true, zD r, zL r)) H := hP
      have hD : va_D A (mW k a (0, zC r, zW r, zG r, va_up (zP r) j 1, zS r, zH r, zR r, va_up (zO r) j true, zD r, zL r)) := mW_D hDk
      refine lv_iconst (v := nI 0) hx hb d_M_begin_54 (by decide) ?_
      refine lv_istore_n hx hb d_M_begin_55 rfl hl (by decide) rfl (fun ls hl => ?_)
      have hl : lv_has ls 3 [(2, .int (nI 0)), (0, .ref (a 0)), (1, .int (nI j))] := hl
      suffices key : ∀ n i (H : Heap) (locs : List Loc) (ls : Array Slot), i ≤ 32 → 32 - i = n → lv_has ls 3 [(2, .int (nI i)), (0, .ref (a 0)), (1, .int (nI j))] → va_P (dC, dI) vwC (mW k a (0, zC r, zW r, zG r, va_up (zP r) j 1, zS r, zClr (zH r) (160 * j) i, zClr (zR r) (32 * j) i, va_up (zO r) j true, zD r, zL r)) H → va_S A s.heap H locs → W p l e _ s m _ below meth c H locs 0 0 (MQ below (va_Qv (fun u => u = zBegin r (nI j)) (mB dC dI k a) A) _ s 0 0 A) (F0 m 56 ls []) from key _ 0 _ _ ls (by omega) rfl hl hP hS
      clear hS hP hD hl
      intro n
      induction n with
      | zero =>
        intro i H locs ls hi hn hl hP hS
        have hie : i = 32 := by omega
        subst hie
        have hD : va_D A (mW k a (0, zC r, zW r, zG r, va_up (zP r) j 1, zS r, zClr (zH r) (160 * j) 32, zClr (zR r) (32 * j) 32, va_up (zO r) j true, zD r, zL r)) := mW_D hDk
        refine lv_iload_n hx hb d_M_begin_56 rfl (lv_at hl 0 rfl) ?_
        refine lv_bipush (v := nI 32) hx hb d_M_begin_57 (by decide) ?_
        refine lv_icmp_ge hx hb d_M_begin_59 rfl (fun _ => ?_) (fun h9 => absurd (nI_le (Nat.le_refl 32) (by omega)) h9)
        exact W.vret hx hb hr (fun t ht hW => ⟨⟨(0, zC r, zW r, zG r, va_up (zP r) j 1, zS r, zClr (zH r) (160 * j) 32, zClr (zR r) (32 * j) 32, va_up (zO r) j true, zD r, zL r), rfl, by unfold zBegin; rw [hq]; dsimp only; rw [if_neg (by rw [ho]; decide)]; first | done | rfl, by show va_P (dC, dI) vwC _ t.heap; rw [ht]; exact hP⟩, hS.F ht⟩) hS.2.2 d_M_begin_92
      | succ n ih =>
        intro i H locs ls hi hn hl hP hS
        have hlt : i < 32 := by omega
        have hD : va_D A (mW k a (0, zC r, zW r, zG r, va_up (zP r) j 1, zS r, zClr (zH r) (160 * j) i, zClr (zR r) (32 * j) i, va_up (zO r) j true, zD r, zL r)) := mW_D hDk
        refine lv_iload_n hx hb d_M_begin_56 rfl (lv_at hl 0 rfl) ?_
        refine lv_bipush (v := nI 32) hx hb d_M_begin_57 (by decide) ?_
        refine lv_icmp_ge hx hb d_M_begin_59 rfl (fun h9 => absurd h9 (nI_ge hlt (by omega))) (fun _ => ?_)
        have hup : va_up (zP r) j 1 j = 1 := va_up_self _ _ _
        refine lv_aload_n hx hb d_M_begin_62 rfl (lv_at hl 1 rfl) ?_
        refine va_get (D := (dC, dI)) (ci := 2) (v := .ref (a 7)) (C := R_M) (T := F_M) (N := 11) hx hb hB in_M hown hK hP 0 rfl rfl 7 (by decide) (hB _ bw_362) (fun _ h9 => h9) rfl d_M_begin_63 ?_
        refine lv_bipush (v := nI 32) hx hb d_M_begin_66 (by decide) ?_
        refine lv_iload_n hx hb d_M_begin_68 rfl (lv_at hl 2 rfl) ?_
        refine lv_imul hx hb d_M_begin_69 ?_
        refine W.eq (g2 := F0 m 70 ls [.int (nI (32 * j)), .ref (a 7)]) (by rw [pk_mul]) ?_
        refine lv_iload_n hx hb d_M_begin_70 rfl (lv_at hl 0 rfl) ?_
        refine lv_iadd hx hb d_M_begin_71 ?_
        refine W.eq (g2 := F0 m 72 ls [.int (nI ((32 * j) + i)), .ref (a 7)]) (by rw [nI_add]) ?_
        refine lv_iconst (v := bI false) hx hb d_M_begin_72 (by decide) ?_
        refine va_zast hx hb hK hP hD hS 7 4 rfl rfl (pk_in ((32 * j) + i) 256 (by omega)) d_M_begin_73 (fun H locs hP hD hS => ?_)
        rw [cl_nI (by omega), bI_upd] at hP
        have hP : va_P (dC, dI) vwC (mW k a (0, zC r, zW r, zG r, va_up (zP r) j 1, zS r, zClr (zH r) (160 * j) i, va_up (zClr (zR r) (32 * j) i) ((32 * j) + i) false, va_up (zO r) j true, zD r, zL r)) H := hP
        have hD : va_D A (mW k a (0, zC r, zW r, zG r, va_up (zP r) j 1, zS r, zClr (zH r) (160 * j) i, va_up (zClr (zR r) (32 * j) i) ((32 * j) + i) false, va_up (zO r) j true, zD r, zL r)) := mW_D hDk
        refine lv_aload_n hx hb d_M_begin_74 rfl (lv_at hl 1 rfl) ?_
        refine va_get (D := (dC, dI)) (ci := 2) (v := .ref (a 6)) (C := R_M) (T := F_M) (N := 11) hx hb hB in_M hown hK hP 0 rfl rfl 6 (by decide) (hB _ bw_361) (fun _ h9 => h9) rfl d_M_begin_75 ?_
        refine lv_aload_n hx hb d_M_begin_78 rfl (lv_at hl 1 rfl) ?_
        refine lv_iload_n hx hb d_M_begin_79 rfl (lv_at hl 2 rfl) ?_
        refine lv_iload_n hx hb d_M_begin_80 rfl (lv_at hl 0 rfl) ?_
        refine vp_callSi (va_Run.run (va_runV (As := [.int (nI j), .int (nI i)]) (rest := [.ref (a 6)]) ⟨hx, hb, hml, hown, hB⟩ (m_M_last l dC dI k a (0, zC r, zW r, zG r, va_up (zP r) j 1, zS r, zClr (zH r) (160 * j) i, va_up (zClr (zR r) (32 * j) i) ((32 * j) + i) false, va_up (zO r) j true, zD r, zL r) j i (by omega) (by omega) (by show 1 ≤ va_up (zP r) j 1 j; rw [hup]; omega) (by show va_up (zP r) j 1 j ≤ 5; rw [hup]; omega)) (cwV 2 hB (BIG_V bw_397 bw_398 bw_11 bw_18 bw_399) rfl rfl rfl ⟨rfl, by decide, by decide, by decide +kernel⟩ ⟨Nat.le_of_ble_eq_true rfl, Nat.le_of_ble_eq_true rfl⟩) (mRc_pre _ hP hK) rfl rfl hl.1 rfl (lv_room (Nat.le_of_ble_eq_true rfl)) d_M_begin_81 ⟨Nat.zero_le _, Nat.zero_le _⟩)) (fun r7 hr7 => ?_)
        refine W.eq (g2 := F0 m 84 ls [.int (nI (160 * j + i)), .ref (a 6)]) (by rw [hr7]; show F0 _ _ _ (Value.int (nI ((5 * j + va_up (zP r) j 1 j - 1) * 32 + i)) :: _) = _; rw [hup, show (5 * j + 1 - 1) * 32 + i = 160 * j + i by omega]) ?_
        refine lv_iconst (v := bI false) hx hb d_M_begin_84 (by decide) ?_
        refine va_zast hx hb hK hP hD hS 6 4 rfl rfl (pk_in (160 * j + i) 1280 (by omega)) d_M_begin_85 (fun H locs hP hD hS => ?_)
        rw [cl_nI (by omega), bI_upd] at hP
        have hP : va_P (dC, dI) vwC (mW k a (0, zC r, zW r, zG r, va_up (zP r) j 1, zS r, va_up (zClr (zH r) (160 * j) i) (160 * j + i) false, va_up (zClr (zR r) (32 * j) i) ((32 * j) + i) false, va_up (zO r) j true, zD r, zL r)) H := hP
        have hD : va_D A (mW k a (0, zC r, zW r, zG r, va_up (zP r) j 1, zS r, va_up (zClr (zH r) (160 * j) i) (160 * j + i) false, va_up (zClr (zR r) (32 * j) i) ((32 * j) + i) false, va_up (zO r) j true, zD r, zL r)) := mW_D hDk
        refine lv_iinc (k := 0) (v := nI (i + 1)) hx hb d_M_begin_86 hl rfl (nI_1 i) (by decide) rfl (fun ls hl => ?_)
        have hl : lv_has ls 3 [(2, .int (nI (i + 1))), (0, .ref (a 0)), (1, .int (nI j))] := hl
        refine lv_goto hx hb d_M_begin_89 rfl ?_
        exact ih (i + 1) H _ ls (by omega) (by omega) hl hP hS
set_option maxHeartbeats 4000000 in
set_option maxRecDepth 100000 in
theorem m_M_read (l : Launch) (dC : Nat → ClassId) (dI : Nat → Nat → Nat) (k : Nat → ClassId) (a : Nat → Nat) (sz : Nat) (r : xRS) (tt kk : Int32) (hok : mOk r) : Met l y_M_read w_M_read (rmx 2 0 0 80) (mPc dC dI k a sz r [.ref (a 0), .int tt, .int kk]) (va_Ql (fun o u => (o, u) = zRead r tt kk) (mB dC dI k a) (va_A (mW k a r) sz)) 0 0 (va_A (mW k a r) sz) := by
  refine Met.ofW (cc := c_M_read) (maxL := 3) (ret := (some .long)) (by decide) rfl ?_
  intro p e s m args below meth c s₁ B hml hv
  obtain ⟨rfl, hsz, hP, hK, hD0⟩ := hv
  have hx := B.exec
  have hb := B.bytes
  have hr := B.returns
  have hts := atoms_spec (ws := w_M_read) B.pre
  have hB : ∀ w ∈ BIG, w.before _ s = true := fun w h => hts w (List.mem_cons_of_mem _ h)
  have hown : s.vm.findClass R_M = some m.cls := findClass_of_methodNamed B.named
  have hlocks := B.notSynchronized
  have hl := lv_entry ([.ref (a 0), .int tt, .int kk]) (n := 3) (Nat.le_of_ble_eq_true rfl)
  rw [lg_entry_eq]
  generalize (lg_sl ([.ref (a 0), .int tt, .int kk]) ++ List.replicate (3 - (lg_sl ([.ref (a 0), .int tt, .int kk])).length) Slot.unset).toArray = ls at hl ⊢
  have hl : lv_has ls 3 [(0, .ref (a 0)), (1, .int tt), (2, .int kk)] := hl
  subst hsz
  have hD := hD0.self (sz := s.heap.size)
  generalize hAe : va_A (mW k a r) s.heap.size = A at hD ⊢
  have hA : ∀ q : Nat, s.heap.size ≤ q → A q := fun q h => by rw [← hAe]; exact Or.inr h
  have hS : va_S A s.heap s.heap [] := va_S.rf
  have hDk := hD
  cases hq : ix 8 tt with
  | none =>
    refine lv_aload_n hx hb d_M_read_0 rfl (lv_at hl 0 rfl) ?_
    refine lv_iconst (v := 0) hx hb d_M_read_1 (by decide) ?_
    refine va_put (D := (dC, dI)) (ci := 2) (v := .int 0) (ty := .int) (C := R_M) (T := F_M) (N := 11) hx hb hB in_M tf_M ty_M nm_M hown hK hP hD hS 0 rfl rfl 0 (by decide) (hB _ bw_355) (fun _ h9 => h9) rfl (by decide +kernel) rfl rfl (Nat.le_of_ble_eq_true rfl) d_M_read_2 (fun H locs hP hD hS => ?_)
    have hP : va_P (dC, dI) vwC (mW k a (0, zC r, zW r, zG r, zP r, zS r, zH r, zR r, zO r, zD r, zL r)) H := hP
    have hD : va_D A (mW k a (0, zC r, zW r, zG r, zP r, zS r, zH r, zR r, zO r, zD r, zL r)) := hD
    refine lv_aload_n hx hb d_M_read_5 rfl (lv_at hl 0 rfl) ?_
    refine lv_iload_n hx hb d_M_read_6 rfl (lv_at hl 1 rfl) ?_
    refine vp_callSi (va_Run.run (va_runS (As := [.int tt]) (rest := [.ref (a 0)]) ⟨hx, hb, hml, hown, hB⟩ (m_M_isOne l tt) (va_cwS 1 hB (BIG_SS bw_387 bw_388 bw_18 bw_389) rfl rfl rfl ⟨by decide, by decide, by decide +kernel⟩ ⟨Nat.le_of_ble_eq_true rfl, Nat.le_of_ble_eq_true rfl⟩) preEq rfl rfl hl.1 rfl (lv_room (Nat.le_of_ble_eq_true rfl)) d_M_read_7 ⟨Nat.zero_le _, Nat.zero_le _⟩)) (fun r7 hr7 => ?_)
    refine W.eq (g2 := F0 m 10 ls [.int (bI false), .ref (a 0)]) (by rw [hr7, hq]; rfl) ?_
    refine lv_if_ne hx hb d_M_read_10 rfl (fun h9 => absurd h9 (by decide)) (fun _ => ?_)
    refine lv_iconst (v := bI true) hx hb d_M_read_13 (by decide) ?_
    refine lv_goto hx hb d_M_read_14 rfl ?_
    refine lv_iconst (v := 1) hx hb d_M_read_18 (by decide) ?_
    have hFc := va_free (wc := mW k a (0, zC r, zW r, zG r, zP r, zS r, zH r, zR r, zO r, zD r, zL r)) hD hS hA [0, 1, 2, 3, 4, 5, 6, 7, 8] rfl
    refine va_calli (va_runV (As := [.int (bI true), .int 1]) (rest := []) ⟨hx, hb, hml, hown, hB⟩ (m_M_fails_t l dC dI k a _ (0, zC r, zW r, zG r, zP r, zS r, zH r, zR r, zO r, zD r, zL r) 1 rfl (by decide)) (cwV 2 hB (BIG_V bw_394 bw_395 bw_10 bw_18 bw_396) rfl rfl rfl ⟨rfl, by decide, by decide, by decide +kernel⟩ ⟨Nat.le_of_ble_eq_true rfl, Nat.le_of_ble_eq_true rfl⟩) (mPc_pre _ hP hK hD) rfl rfl hl.1 rfl (lv_room (Nat.le_of_ble_eq_true rfl)) d_M_read_19 ⟨Nat.zero_le _, Nat.zero_le _⟩) hS (fun q _ h => hFc q h) hFc (fun r7 u t H1 locs ht hvm hw hB1 hz1 hk1 hS => ?_)
    obtain ⟨hw1, hw2⟩ := hw
    subst hw1
    subst hw2
    have hP : va_P (dC, dI) vwC (mW k a (zErr (0, zC r, zW r, zG r, zP r, zS r, zH r, zR r, zO r, zD r, zL r) 1)) H1 := by rw [← ht]; exact hB1
    have hD : va_D A (mW k a (zErr (0, zC r, zW r, zG r, zP r, zS r, zH r, zR r, zO r, zD r, zL r) 1)) := mW_D hDk
    clear hFc hB1 hk1 hz1 ht hvm
    generalize H1 = H at hP hS ⊢
    have hP : va_P (dC, dI) vwC (mW k a (1, zC r, zW r, zG r, zP r, zS r, zH r, zR r, zO r, zD r, zL r)) H := hP
    have hD : va_D A (mW k a (1, zC r, zW r, zG r, zP r, zS r, zH r, zR r, zO r, zD r, zL r)) := hD
    refine lv_if_ne hx hb d_M_read_22 rfl (fun _ => ?_) (fun h9 => absurd h9 (by decide))
    refine lv_lconst (v := 0) hx hb d_M_read_67 (by decide) ?_
    exact W.lret (v := 0) hx hb hr (fun t ht hW => ⟨⟨0, (1, zC r, zW r, zG r, zP r, zS r, zH r, zR r, zO r, zD r, zL r), rfl, by unfold zRead; rw [hq]; first | done | rfl, by show va_P (dC, dI) vwC _ t.heap; rw [ht]; exact hP⟩, hS.F ht⟩) hS.2.2 d_M_read_68
  | some j =>
    obtain ⟨hj, htj⟩ := ix_some (by decide) hq
    subst htj
    cases hy : ix 32 kk with
    | none =>
      refine lv_aload_n hx hb d_M_read_0 rfl (lv_at hl 0 rfl) ?_
      refine lv_iconst (v := 0) hx hb d_M_read_1 (by decide) ?_
      refine va_put (D := (dC, dI)) (ci := 2) (v := .int 0) (ty := .int) (C := R_M) (T := F_M) (N := 11) hx hb hB in_M tf_M ty_M nm_M hown hK hP hD hS 0 rfl rfl 0 (by decide) (hB _ bw_355) (fun _ h9 => h9) rfl (by decide +kernel) rfl rfl (Nat.le_of_ble_eq_true rfl) d_M_read_2 (fun H locs hP hD hS => ?_)
      have hP : va_P (dC, dI) vwC (mW k a (0, zC r, zW r, zG r, zP r, zS r, zH r, zR r, zO r, zD r, zL r)) H := hP
      have hD : va_D A (mW k a (0, zC r, zW r, zG r, zP r, zS r, zH r, zR r, zO r, zD r, zL r)) := hD
      refine lv_aload_n hx hb d_M_read_5 rfl (lv_at hl 0 rfl) ?_
      refine lv_iload_n hx hb d_M_read_6 rfl (lv_at hl 1 rfl) ?_
      refine vp_callSi (va_Run.run (va_runS (As := [.int (nI j)]) (rest := [.ref (a 0)]) ⟨hx, hb, hml, hown, hB⟩ (m_M_isOne l (nI j)) (va_cwS 1 hB (BIG_SS bw_387 bw_388 bw_18 bw_389) rfl rfl rfl ⟨by decide, by decide, by decide +kernel⟩ ⟨Nat.le_of_ble_eq_true rfl, Nat.le_of_ble_eq_true rfl⟩) preEq rfl rfl hl.1 rfl (lv_room (Nat.le_of_ble_eq_true rfl)) d_M_read_7 ⟨Nat.zero_le _, Nat.zero_le _⟩)) (fun r7 hr7 => ?_)
      refine W.eq (g2 := F0 m 10 ls [.int (bI true), .ref (a 0)]) (by rw [hr7, hq]; rfl) ?_
      refine lv_if_ne hx hb d_M_read_10 rfl (fun _ => ?_) (fun h9 => absurd h9 (by decide))
      refine lv_iconst (v := bI false) hx hb d_M_read_17 (by decide) ?_
      refine lv_iconst (v := 1) hx hb d_M_read_18 (by decide) ?_
      have hFc := va_free (wc := mW k a (0, zC r, zW r, zG r, zP r, zS r, zH r, zR r, zO r, zD r, zL r)) hD hS hA [0, 1, 2, 3, 4, 5, 6, 7, 8] rfl
      refine va_calli (va_runV (As := [.int (bI false), .int 1]) (rest := []) ⟨hx, hb, hml, hown, hB⟩ (m_M_fails_f l dC dI k a _ (0, zC r, zW r, zG r, zP r, zS r, zH r, zR r, zO r, zD r, zL r) 1 rfl) (cwV 2 hB (BIG_V bw_394 bw_395 bw_10 bw_18 bw_396) rfl rfl rfl ⟨rfl, by decide, by decide, by decide +kernel⟩ ⟨Nat.le_of_ble_eq_true rfl, Nat.le_of_ble_eq_true rfl⟩) (mPc_pre _ hP hK hD) rfl rfl hl.1 rfl (lv_room (Nat.le_of_ble_eq_true rfl)) d_M_read_19 ⟨Nat.zero_le _, Nat.zero_le _⟩) hS (fun q _ h => hFc q h) hFc (fun r7 u t H1 locs ht hvm hw hB1 hz1 hk1 hS => ?_)
      obtain ⟨hw1, hw2⟩ := hw
      subst hw1
      subst hw2
      have hP : va_P (dC, dI) vwC (mW k a (0, zC r, zW r, zG r, zP r, zS r, zH r, zR r, zO r, zD r, zL r)) H1 := by rw [← ht]; exact hB1
      have hD : va_D A (mW k a (0, zC r, zW r, zG r, zP r, zS r, zH r, zR r, zO r, zD r, zL r)) := mW_D hDk
      clear hFc hB1 hk1 hz1 ht hvm
      generalize H1 = H at hP hS ⊢
      refine lv_if_ne hx hb d_M_read_22 rfl (fun h9 => absurd h9 (by decide)) (fun _ => ?_)
      refine lv_aload_n hx hb d_M_read_25 rfl (lv_at hl 0 rfl) ?_
      refine lv_iload_n hx hb d_M_read_26 rfl (lv_at hl 2 rfl) ?_
      refine vp_callSi (va_Run.run (va_runS (As := [.int kk]) (rest := [.ref (a 0)]) ⟨hx, hb, hml, hown, hB⟩ (m_M_isCell l kk) (va_cwS 1 hB (BIG_SS bw_404 bw_405 bw_18 bw_406) rfl rfl rfl ⟨by decide, by decide, by decide +kernel⟩ ⟨Nat.le_of_ble_eq_true rfl, Nat.le_of_ble_eq_true rfl⟩) preEq rfl rfl hl.1 rfl (lv_room (Nat.le_of_ble_eq_true rfl)) d_M_read_27 ⟨Nat.zero_le _, Nat.zero_le _⟩)) (fun r7 hr7 => ?_)
      refine W.eq (g2 := F0 m 30 ls [.int (bI false), .ref (a 0)]) (by rw [hr7, hy]; rfl) ?_
      refine lv_if_ne hx hb d_M_read_30 rfl (fun h9 => absurd h9 (by decide)) (fun _ => ?_)
      refine lv_iconst (v := bI true) hx hb d_M_read_33 (by decide) ?_
      refine lv_goto hx hb d_M_read_34 rfl ?_
      refine lv_iconst (v := 2) hx hb d_M_read_38 (by decide) ?_
      have hFc := va_free (wc := mW k a (0, zC r, zW r, zG r, zP r, zS r, zH r, zR r, zO r, zD r, zL r)) hD hS hA [0, 1, 2, 3, 4, 5, 6, 7, 8] rfl
      refine va_calli (va_runV (As := [.int (bI true), .int 2]) (rest := []) ⟨hx, hb, hml, hown, hB⟩ (m_M_fails_t l dC dI k a _ (0, zC r, zW r, zG r, zP r, zS r, zH r, zR r, zO r, zD r, zL r) 2 rfl (by decide)) (cwV 2 hB (BIG_V bw_394 bw_395 bw_10 bw_18 bw_396) rfl rfl rfl ⟨rfl, by decide, by decide, by decide +kernel⟩ ⟨Nat.le_of_ble_eq_true rfl, Nat.le_of_ble_eq_true rfl⟩) (mPc_pre _ hP hK hD) rfl rfl hl.1 rfl (lv_room (Nat.le_of_ble_eq_true rfl)) d_M_read_39 ⟨Nat.zero_le _, Nat.zero_le _⟩) hS (fun q _ h => hFc q h) hFc (fun r7 u t H1 locs ht hvm hw hB1 hz1 hk1 hS => ?_)
      obtain ⟨hw1, hw2⟩ := hw
      subst hw1
      subst hw2
      have hP : va_P (dC, dI) vwC (mW k a (zErr (0, zC r, zW r, zG r, zP r, zS r, zH r, zR r, zO r, zD r, zL r) 2)) H1 := by rw [← ht]; exact hB1
      have hD : va_D A (mW k a (zErr (0, zC r, zW r, zG r, zP r, zS r, zH r, zR r, zO r, zD r, zL r) 2)) := mW_D hDk
      clear hFc hB1 hk1 hz1 ht hvm
      generalize H1 = H at hP hS ⊢
      have hP : va_P (dC, dI) vwC (mW k a (2, zC r, zW r, zG r, zP r, zS r, zH r, zR r, zO r, zD r, zL r)) H := hP
      have hD : va_D A (mW k a (2, zC r, zW r, zG r, zP r, zS r, zH r, zR r, zO r, zD r, zL r)) := hD
      refine lv_if_ne hx hb d_M_read_42 rfl (fun _ => ?_) (fun h9 => absurd h9 (by decide))
      refine lv_lconst (v := 0) hx hb d_M_read_67 (by decide) ?_
      exact W.lret (v := 0) hx hb hr (fun t ht hW => ⟨⟨0, (2, zC r, zW r, zG r, zP r, zS r, zH r, zR r, zO r, zD r, zL r), rfl, by unfold zRead; rw [hq]; dsimp only; rw [hy]; first | done | rfl, by show va_P (dC, dI) vwC _ t.heap; rw [ht]; exact hP⟩, hS.F ht⟩) hS.2.2 d_M_read_68
    | some i =>
      obtain ⟨hi, hti⟩ := ix_some (by decide) hy
      subst hti
      cases ho : zO r j with
      | false =>
        refine lv_aload_n hx hb d_M_read_0 rfl (lv_at hl 0 rfl) ?_
        refine lv_iconst (v := 0) hx hb d_M_read_1 (by decide) ?_
        refine va_put (D := (dC, dI)) (ci := 2) (v := .int 0) (ty := .int) (C := R_M) (T := F_M) (N := 11) hx hb hB in_M tf_M ty_M nm_M hown hK hP hD hS 0 rfl rfl 0 (by decide) (hB _ bw_355) (fun _ h9 => h9) rfl (by decide +kernel) rfl rfl (Nat.le_of_ble_eq_true rfl) d_M_read_2 (fun H locs hP hD hS => ?_)
        have hP : va_P (dC, dI) vwC (mW k a (0, zC r, zW r, zG r, zP r, zS r, zH r, zR r, zO r, zD r, zL r)) H := hP
        have hD : va_D A (mW k a (0, zC r, zW r, zG r, zP r, zS r, zH r, zR r, zO r, zD r, zL r)) := hD
        refine lv_aload_n hx hb d_M_read_5 rfl (lv_at hl 0 rfl) ?_
        refine lv_iload_n hx hb d_M_read_6 rfl (lv_at hl 1 rfl) ?_
        refine vp_callSi (va_Run.run (va_runS (As := [.int (nI j)]) (rest := [.ref (a 0)]) ⟨hx, hb, hml, hown, hB⟩ (m_M_isOne l (nI j)) (va_cwS 1 hB (BIG_SS bw_387 bw_388 bw_18 bw_389) rfl rfl rfl ⟨by decide, by decide, by decide +kernel⟩ ⟨Nat.le_of_ble_eq_true rfl, Nat.le_of_ble_eq_true rfl⟩) preEq rfl rfl hl.1 rfl (lv_room (Nat.le_of_ble_eq_true rfl)) d_M_read_7 ⟨Nat.zero_le _, Nat.zero_le _⟩)) (fun r7 hr7 => ?_)
        refine W.eq (g2 := F0 m 10 ls [.int (bI true), .ref (a 0)]) (by rw [hr7, hq]; rfl) ?_
        refine lv_if_ne hx hb d_M_read_10 rfl (fun _ => ?_) (fun h9 => absurd h9 (by decide))
        refine lv_iconst (v := bI false) hx hb d_M_read_17 (by decide) ?_
        refine lv_iconst (v := 1) hx hb d_M_read_18 (by decide) ?_
        have hFc := va_free (wc := mW k a (0, zC r, zW r, zG r, zP r, zS r, zH r, zR r, zO r, zD r, zL r)) hD hS hA [0, 1, 2, 3, 4, 5, 6, 7, 8] rfl
        refine va_calli (va_runV (As := [.int (bI false), .int 1]) (rest := []) ⟨hx, hb, hml, hown, hB⟩ (m_M_fails_f l dC dI k a _ (0, zC r, zW r, zG r, zP r, zS r, zH r, zR r, zO r, zD r, zL r) 1 rfl) (cwV 2 hB (BIG_V bw_394 bw_395 bw_10 bw_18 bw_396) rfl rfl rfl ⟨rfl, by decide, by decide, by decide +kernel⟩ ⟨Nat.le_of_ble_eq_true rfl, Nat.le_of_ble_eq_true rfl⟩) (mPc_pre _ hP hK hD) rfl rfl hl.1 rfl (lv_room (Nat.le_of_ble_eq_true rfl)) d_M_read_19 ⟨Nat.zero_le _, Nat.zero_le _⟩) hS (fun q _ h => hFc q h) hFc (fun r7 u t H1 locs ht hvm hw hB1 hz1 hk1 hS => ?_)
        obtain ⟨hw1, hw2⟩ := hw
        subst hw1
        subst hw2
        have hP : va_P (dC, dI) vwC (mW k a (0, zC r, zW r, zG r, zP r, zS r, zH r, zR r, zO r, zD r, zL r)) H1 := by rw [← ht]; exact hB1
        have hD : va_D A (mW k a (0, zC r, zW r, zG r, zP r, zS r, zH r, zR r, zO r, zD r, zL r)) := mW_D hDk
        clear hFc hB1 hk1 hz1 ht hvm
        generalize H1 = H at hP hS ⊢
        refine lv_if_ne hx hb d_M_read_22 rfl (fun h9 => absurd h9 (by decide)) (fun _ => ?_)
        refine lv_aload_n hx hb d_M_read_25 rfl (lv_at hl 0 rfl) ?_
        refine lv_iload_n hx hb d_M_read_26 rfl (lv_at hl 2 rfl) ?_
        refine vp_callSi (va_Run.run (va_runS (As := [.int (nI i)]) (rest := [.ref (a 0)]) ⟨hx, hb, hml, hown, hB⟩ (m_M_isCell l (nI i)) (va_cwS 1 hB (BIG_SS bw_404 bw_405 bw_18 bw_406) rfl rfl rfl ⟨by decide, by decide, by decide +kernel⟩ ⟨Nat.le_of_ble_eq_true rfl, Nat.le_of_ble_eq_true rfl⟩) preEq rfl rfl hl.1 rfl (lv_room (Nat.le_of_ble_eq_true rfl)) d_M_read_27 ⟨Nat.zero_le _, Nat.zero_le _⟩)) (fun r7 hr7 => ?_)
        refine W.eq (g2 := F0 m 30 ls [.int (bI true), .ref (a 0)]) (by rw [hr7, hy]; rfl) ?_
        refine lv_if_ne hx hb d_M_read_30 rfl (fun _ => ?_) (fun h9 => absurd h9 (by decide))
        refine lv_iconst (v := bI false) hx hb d_M_read_37 (by decide) ?_
        refine lv_iconst (v := 2) hx hb d_M_read_38 (by decide) ?_
        have hFc := va_free (wc := mW k a (0, zC r, zW r, zG r, zP r, zS r, zH r, zR r, zO r, zD r, zL r)) hD hS hA [0, 1, 2, 3, 4, 5, 6, 7, 8] rfl
        refine va_calli (va_runV (As := [.int (bI false), .int 2]) (rest := []) ⟨hx, hb, hml, hown, hB⟩ (m_M_fails_f l dC dI k a _ (0, zC r, zW r, zG r, zP r, zS r, zH r, zR r, zO r, zD r, zL r) 2 rfl) (cwV 2 hB (BIG_V bw_394 bw_395 bw_10 bw_18 bw_396) rfl rfl rfl ⟨rfl, by decide, by decide, by decide +kernel⟩ ⟨Nat.le_of_ble_eq_true rfl, Nat.le_of_ble_eq_true rfl⟩) (mPc_pre _ hP hK hD) rfl rfl hl.1 rfl (lv_room (Nat.le_of_ble_eq_true rfl)) d_M_read_39 ⟨Nat.zero_le _, Nat.zero_le _⟩) hS (fun q _ h => hFc q h) hFc (fun r7 u t H1 locs ht hvm hw hB1 hz1 hk1 hS => ?_)
        obtain ⟨hw1, hw2⟩ := hw
        subst hw1
        subst hw2
        have hP : va_P (dC, dI) vwC (mW k a (0, zC r, zW r, zG r, zP r, zS r, zH r, zR r, zO r, zD r, zL r)) H1 := by rw [← ht]; exact hB1
        have hD : va_D A (mW k a (0, zC r, zW r, zG r, zP r, zS r, zH r, zR r, zO r, zD r, zL r)) := mW_D hDk
        clear hFc hB1 hk1 hz1 ht hvm
        generalize H1 = H at hP hS ⊢
        refine lv_if_ne hx hb d_M_read_42 rfl (fun h9 => absurd h9 (by decide)) (fun _ => ?_)
        refine lv_aload_n hx hb d_M_read_45 rfl (lv_at hl 0 rfl) ?_
        refine lv_aload_n hx hb d_M_read_46 rfl (lv_at hl 0 rfl) ?_
        refine va_get (D := (dC, dI)) (ci := 2) (v := .ref (a 8)) (C := R_M) (T := F_M) (N := 11) hx hb hB in_M hown hK hP 0 rfl rfl 8 (by decide) (hB _ bw_363) (fun _ h9 => h9) rfl d_M_read_47 ?_
        refine lv_iload_n hx hb d_M_read_50 rfl (lv_at hl 1 rfl) ?_
        refine va_zald hx hb hK hP 8 4 rfl rfl (pk_in j 8 (by omega)) d_M_read_51 ?_
        refine W.eq (g2 := F0 m 52 ls [.int (bI (zO r j)), .ref (a 0)]) (by rw [cl_nI (by omega)]) ?_
        refine W.eq (g2 := F0 m 52 ls [.int (bI false), .ref (a 0)]) (by rw [ho]) ?_
        refine lv_if_ne hx hb d_M_read_52 rfl (fun h9 => absurd h9 (by decide)) (fun _ => ?_)
        refine lv_iconst (v := bI true) hx hb d_M_read_55 (by decide) ?_
        refine lv_goto hx hb d_M_read_56 rfl ?_
        refine lv_iconst (v := 3) hx hb d_M_read_60 (by decide) ?_
        have hFc := va_free (wc := mW k a (0, zC r, zW r, zG r, zP r, zS r, zH r, zR r, zO r, zD r, zL r)) hD hS hA [0, 1, 2, 3, 4, 5, 6, 7, 8] rfl
        refine va_calli (va_runV (As := [.int (bI true), .int 3]) (rest := []) ⟨hx, hb, hml, hown, hB⟩ (m_M_fails_t l dC dI k a _ (0, zC r, zW r, zG r, zP r, zS r, zH r, zR r, zO r, zD r, zL r) 3 rfl (by decide)) (cwV 2 hB (BIG_V bw_394 bw_395 bw_10 bw_18 bw_396) rfl rfl rfl ⟨rfl, by decide, by decide, by decide +kernel⟩ ⟨Nat.le_of_ble_eq_true rfl, Nat.le_of_ble_eq_true rfl⟩) (mPc_pre _ hP hK hD) rfl rfl hl.1 rfl (lv_room (Nat.le_of_ble_eq_true rfl)) d_M_read_61 ⟨Nat.zero_le _, Nat.zero_le _⟩) hS (fun q _ h => hFc q h) hFc (fun r7 u t H1 locs ht hvm hw hB1 hz1 hk1 hS => ?_)
        obtain ⟨hw1, hw2⟩ := hw
        subst hw1
        subst hw2
        have hP : va_P (dC, dI) vwC (mW k a (zErr (0, zC r, zW r, zG r, zP r, zS r, zH r, zR r, zO r, zD r, zL r) 3)) H1 := by rw [← ht]; exact hB1
        have hD : va_D A (mW k a (zErr (0, zC r, zW r, zG r, zP r, zS r, zH r, zR r, zO r, zD r, zL r) 3)) := mW_D hDk
        clear hFc hB1 hk1 hz1 ht hvm
        generalize H1 = H at hP hS ⊢
        have hP : va_P (dC, dI) vwC (mW k a (3, zC r, zW r, zG r, zP r, zS r, zH r, zR r, zO r, zD r, zL r)) H := hP
        have hD : va_D A (mW k a (3, zC r, zW r, zG r, zP r, zS r, zH r, zR r, zO r, zD r, zL r)) := hD
        refine lv_if_eq hx hb d_M_read_64 rfl (fun h9 => absurd h9 (by decide)) (fun _ => ?_)
        refine lv_lconst (v := 0) hx hb d_M_read_67 (by decide) ?_
        exact W.lret (v := 0) hx hb hr (fun t ht hW => ⟨⟨0, (3, zC r, zW r, zG r, zP r, zS r, zH r, zR r, zO r, zD r, zL r), rfl, by unfold zRead; rw [hq]; dsimp only; rw [hy]; dsimp only; rw [if_pos ho]; first | done | rfl, by show va_P (dC, dI) vwC _ t.heap; rw [ht]; exact hP⟩, hS.F ht⟩) hS.2.2 d_M_read_68
      | true =>
        obtain ⟨hp1, hp5⟩ := hok j hj ho
        have hat : zAt r j i < 1280 := by unfold zAt; omega
        cases hh : zH r (zAt r j i) with
        | true =>
          refine lv_aload_n hx hb d_M_read_0 rfl (lv_at hl 0 rfl) ?_
          refine lv_iconst (v := 0) hx hb d_M_read_1 (by decide) ?_
          refine va_put (D := (dC, dI)) (ci := 2) (v := .int 0) (ty := .int) (C := R_M) (T := F_M) (N := 11) hx hb hB in_M tf_M ty_M nm_M hown hK hP hD hS 0 rfl rfl 0 (by decide) (hB _ bw_355) (fun _ h9 => h9) rfl (by decide +kernel) rfl rfl (Nat.le_of_ble_eq_true rfl) d_M_read_2 (fun H locs hP hD hS => ?_)
          have hP : va_P (dC, dI) vwC (mW k a (0, zC r, zW r, zG r, zP r, zS r, zH r, zR r, zO r, zD r, zL r)) H := hP
          have hD : va_D A (mW k a (0, zC r, zW r, zG r, zP r, zS r, zH r, zR r, zO r, zD r, zL r)) := hD
          refine lv_aload_n hx hb d_M_read_5 rfl (lv_at hl 0 rfl) ?_
          refine lv_iload_n hx hb d_M_read_6 rfl (lv_at hl 1 rfl) ?_
          refine vp_callSi (va_Run.run (va_runS (As := [.int (nI j)]) (rest := [.ref (a 0)]) ⟨hx, hb, hml, hown, hB⟩ (m_M_isOne l (nI j)) (va_cwS 1 hB (BIG_SS bw_387 bw_388 bw_18 bw_389) rfl rfl rfl ⟨by decide, by decide, by decide +kernel⟩ ⟨Nat.le_of_ble_eq_true rfl, Nat.le_of_ble_eq_true rfl⟩) preEq rfl rfl hl.1 rfl (lv_room (Nat.le_of_ble_eq_true rfl)) d_M_read_7 ⟨Nat.zero_le _, Nat.zero_le _⟩)) (fun r7 hr7 => ?_)
          refine W.eq (g2 := F0 m 10 ls [.int (bI true), .ref (a 0)]) (by rw [hr7, hq]; rfl) ?_
          refine lv_if_ne hx hb d_M_read_10 rfl (fun _ => ?_) (fun h9 => absurd h9 (by decide))
          refine lv_iconst (v := bI false) hx hb d_M_read_17 (by decide) ?_
          refine lv_iconst (v := 1) hx hb d_M_read_18 (by decide) ?_
          have hFc := va_free (wc := mW k a (0, zC r, zW r, zG r, zP r, zS r, zH r, zR r, zO r, zD r, zL r)) hD hS hA [0, 1, 2, 3, 4, 5, 6, 7, 8] rfl
          refine va_calli (va_runV (As := [.int (bI false), .int 1]) (rest := []) ⟨hx, hb, hml, hown, hB⟩ (m_M_fails_f l dC dI k a _ (0, zC r, zW r, zG r, zP r, zS r, zH r, zR r, zO r, zD r, zL r) 1 rfl) (cwV 2 hB (BIG_V bw_394 bw_395 bw_10 bw_18 bw_396) rfl rfl rfl ⟨rfl, by decide, by decide, by decide +kernel⟩ ⟨Nat.le_of_ble_eq_true rfl, Nat.le_of_ble_eq_true rfl⟩) (mPc_pre _ hP hK hD) rfl rfl hl.1 rfl (lv_room (Nat.le_of_ble_eq_true rfl)) d_M_read_19 ⟨Nat.zero_le _, Nat.zero_le _⟩) hS (fun q _ h => hFc q h) hFc (fun r7 u t H1 locs ht hvm hw hB1 hz1 hk1 hS => ?_)
          obtain ⟨hw1, hw2⟩ := hw
          subst hw1
          subst hw2
          have hP : va_P (dC, dI) vwC (mW k a (0, zC r, zW r, zG r, zP r, zS r, zH r, zR r, zO r, zD r, zL r)) H1 := by rw [← ht]; exact hB1
          have hD : va_D A (mW k a (0, zC r, zW r, zG r, zP r, zS r, zH r, zR r, zO r, zD r, zL r)) := mW_D hDk
          clear hFc hB1 hk1 hz1 ht hvm
          generalize H1 = H at hP hS ⊢
          refine lv_if_ne hx hb d_M_read_22 rfl (fun h9 => absurd h9 (by decide)) (fun _ => ?_)
          refine lv_aload_n hx hb d_M_read_25 rfl (lv_at hl 0 rfl) ?_
          refine lv_iload_n hx hb d_M_read_26 rfl (lv_at hl 2 rfl) ?_
          refine vp_callSi (va_Run.run (va_runS (As := [.int (nI i)]) (rest := [.ref (a 0)]) ⟨hx, hb, hml, hown, hB⟩ (m_M_isCell l (nI i)) (va_cwS 1 hB (BIG_SS bw_404 bw_405 bw_18 bw_406) rfl rfl rfl ⟨by decide, by decide, by decide +kernel⟩ ⟨Nat.le_of_ble_eq_true rfl, Nat.le_of_ble_eq_true rfl⟩) preEq rfl rfl hl.1 rfl (lv_room (Nat.le_of_ble_eq_true rfl)) d_M_read_27 ⟨Nat.zero_le _, Nat.zero_le _⟩)) (fun r7 hr7 => ?_)
          refine W.eq (g2 := F0 m 30 ls [.int (bI true), .ref (a 0)]) (by rw [hr7, hy]; rfl) ?_
          refine lv_if_ne hx hb d_M_read_30 rfl (fun _ => ?_) (fun h9 => absurd h9 (by decide))
          refine lv_iconst (v := bI false) hx hb d_M_read_37 (by decide) ?_
          refine lv_iconst (v := 2) hx hb d_M_read_38 (by decide) ?_
          have hFc := va_free (wc := mW k a (0, zC r, zW r, zG r, zP r, zS r, zH r, zR r, zO r, zD r, zL r)) hD hS hA [0, 1, 2, 3, 4, 5, 6, 7, 8] rfl
          refine va_calli (va_runV (As := [.int (bI false), .int 2]) (rest := []) ⟨hx, hb, hml, hown, hB⟩ (m_M_fails_f l dC dI k a _ (0, zC r, zW r, zG r, zP r, zS r, zH r, zR r, zO r, zD r, zL r) 2 rfl) (cwV 2 hB (BIG_V bw_394 bw_395 bw_10 bw_18 bw_396) rfl rfl rfl ⟨rfl, by decide, by decide, by decide +kernel⟩ ⟨Nat.le_of_ble_eq_true rfl, Nat.le_of_ble_eq_true rfl⟩) (mPc_pre _ hP hK hD) rfl rfl hl.1 rfl (lv_room (Nat.le_of_ble_eq_true rfl)) d_M_read_39 ⟨Nat.zero_le _, Nat.zero_le _⟩) hS (fun q _ h => hFc q h) hFc (fun r7 u t H1 locs ht hvm hw hB1 hz1 hk1 hS => ?_)
          obtain ⟨hw1, hw2⟩ := hw
          subst hw1
          subst hw2
          have hP : va_P (dC, dI) vwC (mW k a (0, zC r, zW r, zG r, zP r, zS r, zH r, zR r, zO r, zD r, zL r)) H1 := by rw [← ht]; exact hB1
          have hD : va_D A (mW k a (0, zC r, zW r, zG r, zP r, zS r, zH r, zR r, zO r, zD r, zL r)) := mW_D hDk
          clear hFc hB1 hk1 hz1 ht hvm
          generalize H1 = H at hP hS ⊢
          refine lv_if_ne hx hb d_M_read_42 rfl (fun h9 => absurd h9 (by decide)) (fun _ => ?_)
          refine lv_aload_n hx hb d_M_read_45 rfl (lv_at hl 0 rfl) ?_
          refine lv_aload_n hx hb d_M_read_46 rfl (lv_at hl 0 rfl) ?_
          refine va_get (D := (dC, dI)) (ci := 2) (v := .ref (a 8)) (C := R_M) (T := F_M) (N := 11) hx hb hB in_M hown hK hP 0 rfl rfl 8 (by decide) (hB _ bw_363) (fun _ h9 => h9) rfl d_M_read_47 ?_
          refine lv_iload_n hx hb d_M_read_50 rfl (lv_at hl 1 rfl) ?_
          refine va_zald hx hb hK hP 8 4 rfl rfl (pk_in j 8 (by omega)) d_M_read_51 ?_
          refine W.eq (g2 := F0 m 52 ls [.int (bI (zO r j)), .ref (a 0)]) (by rw [cl_nI (by omega)]) ?_
          refine W.eq (g2 := F0 m 52 ls [.int (bI true), .ref (a 0)]) (by rw [ho]) ?_
          refine lv_if_ne hx hb d_M_read_52 rfl (fun _ => ?_) (fun h9 => absurd h9 (by decide))
          refine lv_iconst (v := bI false) hx hb d_M_read_59 (by decide) ?_
          refine lv_iconst (v := 3) hx hb d_M_read_60 (by decide) ?_
          have hFc := va_free (wc := mW k a (0, zC r, zW r, zG r, zP r, zS r, zH r, zR r, zO r, zD r, zL r)) hD hS hA [0, 1, 2, 3, 4, 5, 6, 7, 8] rfl
          refine va_calli (va_runV (As := [.int (bI false), .int 3]) (rest := []) ⟨hx, hb, hml, hown, hB⟩ (m_M_fails_f l dC dI k a _ (0, zC r, zW r, zG r, zP r, zS r, zH r, zR r, zO r, zD r, zL r) 3 rfl) (cwV 2 hB (BIG_V bw_394 bw_395 bw_10 bw_18 bw_396) rfl rfl rfl ⟨rfl, by decide, by decide, by decide +kernel⟩ ⟨Nat.le_of_ble_eq_true rfl, Nat.le_of_ble_eq_true rfl⟩) (mPc_pre _ hP hK hD) rfl rfl hl.1 rfl (lv_room (Nat.le_of_ble_eq_true rfl)) d_M_read_61 ⟨Nat.zero_le _, Nat.zero_le _⟩) hS (fun q _ h => hFc q h) hFc (fun r7 u t H1 locs ht hvm hw hB1 hz1 hk1 hS => ?_)
          obtain ⟨hw1, hw2⟩ := hw
          subst hw1
          subst hw2
          have hP : va_P (dC, dI) vwC (mW k a (0, zC r, zW r, zG r, zP r, zS r, zH r, zR r, zO r, zD r, zL r)) H1 := by rw [← ht]; exact hB1
          have hD : va_D A (mW k a (0, zC r, zW r, zG r, zP r, zS r, zH r, zR r, zO r, zD r, zL r)) := mW_D hDk
          clear hFc hB1 hk1 hz1 ht hvm
          generalize H1 = H at hP hS ⊢
          refine lv_if_eq hx hb d_M_read_64 rfl (fun _ => ?_) (fun h9 => absurd (by decide) h9)
          refine lv_aload_n hx hb d_M_read_69 rfl (lv_at hl 0 rfl) ?_
          refine va_get (D := (dC, dI)) (ci := 2) (v := .ref (a 6)) (C := R_M) (T := F_M) (N := 11) hx hb hB in_M hown hK hP 0 rfl rfl 6 (by decide) (hB _ bw_361) (fun _ h9 => h9) rfl d_M_read_70 ?_
          refine lv_aload_n hx hb d_M_read_73 rfl (lv_at hl 0 rfl) ?_
          refine lv_iload_n hx hb d_M_read_74 rfl (lv_at hl 1 rfl) ?_
          refine lv_iload_n hx hb d_M_read_75 rfl (lv_at hl 2 rfl) ?_
          refine vp_callSi (va_Run.run (va_runV (As := [.int (nI j), .int (nI i)]) (rest := [.ref (a 6)]) ⟨hx, hb, hml, hown, hB⟩ (m_M_last l dC dI k a (0, zC r, zW r, zG r, zP r, zS r, zH r, zR r, zO r, zD r, zL r) j i (by omega) (by omega) hp1 hp5) (cwV 2 hB (BIG_V bw_397 bw_398 bw_11 bw_18 bw_399) rfl rfl rfl ⟨rfl, by decide, by decide, by decide +kernel⟩ ⟨Nat.le_of_ble_eq_true rfl, Nat.le_of_ble_eq_true rfl⟩) (mRc_pre _ hP hK) rfl rfl hl.1 rfl (lv_room (Nat.le_of_ble_eq_true rfl)) d_M_read_76 ⟨Nat.zero_le _, Nat.zero_le _⟩)) (fun r7 hr7 => ?_)
          refine W.eq (g2 := F0 m 79 ls [.int (nI (zAt r j i)), .ref (a 6)]) (by rw [hr7]; rfl) ?_
          refine va_zald hx hb hK hP 6 4 rfl rfl (pk_in (zAt r j i) 1280 (by omega)) d_M_read_79 ?_
          refine W.eq (g2 := F0 m 80 ls [.int (bI (zH r (zAt r j i)))]) (by rw [cl_nI (by omega)]) ?_
          refine W.eq (g2 := F0 m 80 ls [.int (bI true)]) (by rw [hh]) ?_
          refine lv_if_eq hx hb d_M_read_80 rfl (fun h9 => absurd h9 (by decide)) (fun _ => ?_)
          refine lv_aload_n hx hb d_M_read_83 rfl (lv_at hl 0 rfl) ?_
          refine va_get (D := (dC, dI)) (ci := 2) (v := .ref (a 2)) (C := R_M) (T := F_M) (N := 11) hx hb hB in_M hown hK hP 0 rfl rfl 2 (by decide) (hB _ bw_357) (fun _ h9 => h9) rfl d_M_read_84 ?_
          refine lv_aload_n hx hb d_M_read_87 rfl (lv_at hl 0 rfl) ?_
          refine lv_iload_n hx hb d_M_read_88 rfl (lv_at hl 1 rfl) ?_
          refine lv_iload_n hx hb d_M_read_89 rfl (lv_at hl 2 rfl) ?_
          refine vp_callSi (va_Run.run (va_runV (As := [.int (nI j), .int (nI i)]) (rest := [.ref (a 2)]) ⟨hx, hb, hml, hown, hB⟩ (m_M_last l dC dI k a (0, zC r, zW r, zG r, zP r, zS r, zH r, zR r, zO r, zD r, zL r) j i (by omega) (by omega) hp1 hp5) (cwV 2 hB (BIG_V bw_397 bw_398 bw_11 bw_18 bw_399) rfl rfl rfl ⟨rfl, by decide, by decide, by decide +kernel⟩ ⟨Nat.le_of_ble_eq_true rfl, Nat.le_of_ble_eq_true rfl⟩) (mRc_pre _ hP hK) rfl rfl hl.1 rfl (lv_room (Nat.le_of_ble_eq_true rfl)) d_M_read_90 ⟨Nat.zero_le _, Nat.zero_le _⟩)) (fun r7 hr7 => ?_)
          refine W.eq (g2 := F0 m 93 ls [.int (nI (zAt r j i)), .ref (a 2)]) (by rw [hr7]; rfl) ?_
          refine va_lald hx hb hK hP 2 1 rfl rfl (pk_in (zAt r j i) 1280 (by omega)) d_M_read_93 ?_
          refine W.eq (g2 := F0 m 94 ls [.long (zW r (zAt r j i))]) (by rw [cl_nI (by omega)]) ?_
          exact W.lret (v := zW r (zAt r j i)) hx hb hr (fun t ht hW => ⟨⟨zW r (zAt r j i), (0, zC r, zW r, zG r, zP r, zS r, zH r, zR r, zO r, zD r, zL r), rfl, by unfold zRead; rw [hq]; dsimp only; rw [hy]; dsimp only; rw [if_neg (by rw [ho]; decide)]; rw [if_pos hh]; first | done | rfl, by show va_P (dC, dI) vwC _ t.heap; rw [ht]; exact hP⟩, hS.F ht⟩) hS.2.2 d_M_read_94
        | false =>
          refine lv_aload_n hx hb d_M_read_0 rfl (lv_at hl 0 rfl) ?_
          refine lv_iconst (v := 0) hx hb d_M_read_1 (by decide) ?_
          refine va_put (D := (dC, dI)) (ci := 2) (v := .int 0) (ty := .int) (C := R_M) (T := F_M) (N := 11) hx hb hB in_M tf_M ty_M nm_M hown hK hP hD hS 0 rfl rfl 0 (by decide) (hB _ bw_355) (fun _ h9 => h9) rfl (by decide +kernel) rfl rfl (Nat.le_of_ble_eq_true rfl) d_M_read_2 (fun H locs hP hD hS => ?_)
          have hP : va_P (dC, dI) vwC (mW k a (0, zC r, zW r, zG r, zP r, zS r, zH r, zR r, zO r, zD r, zL r)) H := hP
          have hD : va_D A (mW k a (0, zC r, zW r, zG r, zP r, zS r, zH r, zR r, zO r, zD r, zL r)) := hD
          refine lv_aload_n hx hb d_M_read_5 rfl (lv_at hl 0 rfl) ?_
          refine lv_iload_n hx hb d_M_read_6 rfl (lv_at hl 1 rfl) ?_
          refine vp_callSi (va_Run.run (va_runS (As := [.int (nI j)]) (rest := [.ref (a 0)]) ⟨hx, hb, hml, hown, hB⟩ (m_M_isOne l (nI j)) (va_cwS 1 hB (BIG_SS bw_387 bw_388 bw_18 bw_389) rfl rfl rfl ⟨by decide, by decide, by decide +kernel⟩ ⟨Nat.le_of_ble_eq_true rfl, Nat.le_of_ble_eq_true rfl⟩) preEq rfl rfl hl.1 rfl (lv_room (Nat.le_of_ble_eq_true rfl)) d_M_read_7 ⟨Nat.zero_le _, Nat.zero_le _⟩)) (fun r7 hr7 => ?_)
          refine W.eq (g2 := F0 m 10 ls [.int (bI true), .ref (a 0)]) (by rw [hr7, hq]; rfl) ?_
          refine lv_if_ne hx hb d_M_read_10 rfl (fun _ => ?_) (fun h9 => absurd h9 (by decide))
          refine lv_iconst (v := bI false) hx hb d_M_read_17 (by decide) ?_
          refine lv_iconst (v := 1) hx hb d_M_read_18 (by decide) ?_
          have hFc := va_free (wc := mW k a (0, zC r, zW r, zG r, zP r, zS r, zH r, zR r, zO r, zD r, zL r)) hD hS hA [0, 1, 2, 3, 4, 5, 6, 7, 8] rfl
          refine va_calli (va_runV (As := [.int (bI false), .int 1]) (rest := []) ⟨hx, hb, hml, hown, hB⟩ (m_M_fails_f l dC dI k a _ (0, zC r, zW r, zG r, zP r, zS r, zH r, zR r, zO r, zD r, zL r) 1 rfl) (cwV 2 hB (BIG_V bw_394 bw_395 bw_10 bw_18 bw_396) rfl rfl rfl ⟨rfl, by decide, by decide, by decide +kernel⟩ ⟨Nat.le_of_ble_eq_true rfl, Nat.le_of_ble_eq_true rfl⟩) (mPc_pre _ hP hK hD) rfl rfl hl.1 rfl (lv_room (Nat.le_of_ble_eq_true rfl)) d_M_read_19 ⟨Nat.zero_le _, Nat.zero_le _⟩) hS (fun q _ h => hFc q h) hFc (fun r7 u t H1 locs ht hvm hw hB1 hz1 hk1 hS => ?_)
          obtain ⟨hw1, hw2⟩ := hw
          subst hw1
          subst hw2
          have hP : va_P (dC, dI) vwC (mW k a (0, zC r, zW r, zG r, zP r, zS r, zH r, zR r, zO r, zD r, zL r)) H1 := by rw [← ht]; exact hB1
          have hD : va_D A (mW k a (0, zC r, zW r, zG r, zP r, zS r, zH r, zR r, zO r, zD r, zL r)) := mW_D hDk
          clear hFc hB1 hk1 hz1 ht hvm
          generalize H1 = H at hP hS ⊢
          refine lv_if_ne hx hb d_M_read_22 rfl (fun h9 => absurd h9 (by decide)) (fun _ => ?_)
          refine lv_aload_n hx hb d_M_read_25 rfl (lv_at hl 0 rfl) ?_
          refine lv_iload_n hx hb d_M_read_26 rfl (lv_at hl 2 rfl) ?_
          refine vp_callSi (va_Run.run (va_runS (As := [.int (nI i)]) (rest := [.ref (a 0)]) ⟨hx, hb, hml, hown, hB⟩ (m_M_isCell l (nI i)) (va_cwS 1 hB (BIG_SS bw_404 bw_405 bw_18 bw_406) rfl rfl rfl ⟨by decide, by decide, by decide +kernel⟩ ⟨Nat.le_of_ble_eq_true rfl, Nat.le_of_ble_eq_true rfl⟩) preEq rfl rfl hl.1 rfl (lv_room (Nat.le_of_ble_eq_true rfl)) d_M_read_27 ⟨Nat.zero_le _, Nat.zero_le _⟩)) (fun r7 hr7 => ?_)
          refine W.eq (g2 := F0 m 30 ls [.int (bI true), .ref (a 0)]) (by rw [hr7, hy]; rfl) ?_
          refine lv_if_ne hx hb d_M_read_30 rfl (fun _ => ?_) (fun h9 => absurd h9 (by decide))
          refine lv_iconst (v := bI false) hx hb d_M_read_37 (by decide) ?_
          refine lv_iconst (v := 2) hx hb d_M_read_38 (by decide) ?_
          have hFc := va_free (wc := mW k a (0, zC r, zW r, zG r, zP r, zS r, zH r, zR r, zO r, zD r, zL r)) hD hS hA [0, 1, 2, 3, 4, 5, 6, 7, 8] rfl
          refine va_calli (va_runV (As := [.int (bI false), .int 2]) (rest := []) ⟨hx, hb, hml, hown, hB⟩ (m_M_fails_f l dC dI k a _ (0, zC r, zW r, zG r, zP r, zS r, zH r, zR r, zO r, zD r, zL r) 2 rfl) (cwV 2 hB (BIG_V bw_394 bw_395 bw_10 bw_18 bw_396) rfl rfl rfl ⟨rfl, by decide, by decide, by decide +kernel⟩ ⟨Nat.le_of_ble_eq_true rfl, Nat.le_of_ble_eq_true rfl⟩) (mPc_pre _ hP hK hD) rfl rfl hl.1 rfl (lv_room (Nat.le_of_ble_eq_true rfl)) d_M_read_39 ⟨Nat.zero_le _, Nat.zero_le _⟩) hS (fun q _ h => hFc q h) hFc (fun r7 u t H1 locs ht hvm hw hB1 hz1 hk1 hS => ?_)
          obtain ⟨hw1, hw2⟩ := hw
          subst hw1
          subst hw2
          have hP : va_P (dC, dI) vwC (mW k a (0, zC r, zW r, zG r, zP r, zS r, zH r, zR r, zO r, zD r, zL r)) H1 := by rw [← ht]; exact hB1
          have hD : va_D A (mW k a (0, zC r, zW r, zG r, zP r, zS r, zH r, zR r, zO r, zD r, zL r)) := mW_D hDk
          clear hFc hB1 hk1 hz1 ht hvm
          generalize H1 = H at hP hS ⊢
          refine lv_if_ne hx hb d_M_read_42 rfl (fun h9 => absurd h9 (by decide)) (fun _ => ?_)
          refine lv_aload_n hx hb d_M_read_45 rfl (lv_at hl 0 rfl) ?_
          refine lv_aload_n hx hb d_M_read_46 rfl (lv_at hl 0 rfl) ?_
          refine va_get (D := (dC, dI)) (ci := 2) (v := .ref (a 8)) (C := R_M) (T := F_M) (N := 11) hx hb hB in_M hown hK hP 0 rfl rfl 8 (by decide) (hB _ bw_363) (fun _ h9 => h9) rfl d_M_read_47 ?_
          refine lv_iload_n hx hb d_M_read_50 rfl (lv_at hl 1 rfl) ?_
          refine va_zald hx hb hK hP 8 4 rfl rfl (pk_in j 8 (by omega)) d_M_read_51 ?_
          refine W.eq (g2 := F0 m 52 ls [.int (bI (zO r j)), .ref (a 0)]) (by rw [cl_nI (by omega)]) ?_
          refine W.eq (g2 := F0 m 52 ls [.int (bI true), .ref (a 0)]) (by rw [ho]) ?_
          refine lv_if_ne hx hb d_M_read_52 rfl (fun _ => ?_) (fun h9 => absurd h9 (by decide))
          refine lv_iconst (v := bI false) hx hb d_M_read_59 (by decide) ?_
          refine lv_iconst (v := 3) hx hb d_M_read_60 (by decide) ?_
          have hFc := va_free (wc := mW k a (0, zC r, zW r, zG r, zP r, zS r, zH r, zR r, zO r, zD r, zL r)) hD hS hA [0, 1, 2, 3, 4, 5, 6, 7, 8] rfl
          refine va_calli (va_runV (As := [.int (bI false), .int 3]) (rest := []) ⟨hx, hb, hml, hown, hB⟩ (m_M_fails_f l dC dI k a _ (0, zC r, zW r, zG r, zP r, zS r, zH r, zR r, zO r, zD r, zL r) 3 rfl) (cwV 2 hB (BIG_V bw_394 bw_395 bw_10 bw_18 bw_396) rfl rfl rfl ⟨rfl, by decide, by decide, by decide +kernel⟩ ⟨Nat.le_of_ble_eq_true rfl, Nat.le_of_ble_eq_true rfl⟩) (mPc_pre _ hP hK hD) rfl rfl hl.1 rfl (lv_room (Nat.le_of_ble_eq_true rfl)) d_M_read_61 ⟨Nat.zero_le _, Nat.zero_le _⟩) hS (fun q _ h => hFc q h) hFc (fun r7 u t H1 locs ht hvm hw hB1 hz1 hk1 hS => ?_)
          obtain ⟨hw1, hw2⟩ := hw
          subst hw1
          subst hw2
          have hP : va_P (dC, dI) vwC (mW k a (0, zC r, zW r, zG r, zP r, zS r, zH r, zR r, zO r, zD r, zL r)) H1 := by rw [← ht]; exact hB1
          have hD : va_D A (mW k a (0, zC r, zW r, zG r, zP r, zS r, zH r, zR r, zO r, zD r, zL r)) := mW_D hDk
          clear hFc hB1 hk1 hz1 ht hvm
          generalize H1 = H at hP hS ⊢
          refine lv_if_eq hx hb d_M_read_64 rfl (fun _ => ?_) (fun h9 => absurd (by decide) h9)
          refine lv_aload_n hx hb d_M_read_69 rfl (lv_at hl 0 rfl) ?_
          refine va_get (D := (dC, dI)) (ci := 2) (v := .ref (a 6)) (C := R_M) (T := F_M) (N := 11) hx hb hB in_M hown hK hP 0 rfl rfl 6 (by decide) (hB _ bw_361) (fun _ h9 => h9) rfl d_M_read_70 ?_
          refine lv_aload_n hx hb d_M_read_73 rfl (lv_at hl 0 rfl) ?_
          refine lv_iload_n hx hb d_M_read_74 rfl (lv_at hl 1 rfl) ?_
          refine lv_iload_n hx hb d_M_read_75 rfl (lv_at hl 2 rfl) ?_
          refine vp_callSi (va_Run.run (va_runV (As := [.int (nI j), .int (nI i)]) (rest := [.ref (a 6)]) ⟨hx, hb, hml, hown, hB⟩ (m_M_last l dC dI k a (0, zC r, zW r, zG r, zP r, zS r, zH r, zR r, zO r, zD r, zL r) j i (by omega) (by omega) hp1 hp5) (cwV 2 hB (BIG_V bw_397 bw_398 bw_11 bw_18 bw_399) rfl rfl rfl ⟨rfl, by decide, by decide, by decide +kernel⟩ ⟨Nat.le_of_ble_eq_true rfl, Nat.le_of_ble_eq_true rfl⟩) (mRc_pre _ hP hK) rfl rfl hl.1 rfl (lv_room (Nat.le_of_ble_eq_true rfl)) d_M_read_76 ⟨Nat.zero_le _, Nat.zero_le _⟩)) (fun r7 hr7 => ?_)
          refine W.eq (g2 := F0 m 79 ls [.int (nI (zAt r j i)), .ref (a 6)]) (by rw [hr7]; rfl) ?_
          refine va_zald hx hb hK hP 6 4 rfl rfl (pk_in (zAt r j i) 1280 (by omega)) d_M_read_79 ?_
          refine W.eq (g2 := F0 m 80 ls [.int (bI (zH r (zAt r j i)))]) (by rw [cl_nI (by omega)]) ?_
          refine W.eq (g2 := F0 m 80 ls [.int (bI false)]) (by rw [hh]) ?_
          refine lv_if_eq hx hb d_M_read_80 rfl (fun _ => ?_) (fun h9 => absurd (by decide) h9)
          refine lv_aload_n hx hb d_M_read_95 rfl (lv_at hl 0 rfl) ?_
          refine lv_iload_n hx hb d_M_read_96 rfl (lv_at hl 1 rfl) ?_
          refine vp_callSi (va_Run.run (va_runV (As := [.int (nI j)]) (rest := []) ⟨hx, hb, hml, hown, hB⟩ (m_M_isStale l dC dI k a (0, zC r, zW r, zG r, zP r, zS r, zH r, zR r, zO r, zD r, zL r) j hj) (cwV 1 hB (BIG_V bw_408 bw_409 bw_12 bw_18 bw_410) rfl rfl rfl ⟨rfl, by decide, by decide, by decide +kernel⟩ ⟨Nat.le_of_ble_eq_true rfl, Nat.le_of_ble_eq_true rfl⟩) (mRc_pre _ hP hK) rfl rfl hl.1 rfl (lv_room (Nat.le_of_ble_eq_true rfl)) d_M_read_97 ⟨Nat.zero_le _, Nat.zero_le _⟩)) (fun r7 hr7 => ?_)
          refine W.eq (g2 := F0 m 100 ls [.int (bI (zSt r j 32))]) (by rw [hr7, zSt_cg (r := (0, zC r, zW r, zG r, zP r, zS r, zH r, zR r, zO r, zD r, zL r)) (r2 := r) rfl rfl rfl]) ?_
          cases hs : zSt r j 32 with
          | true =>
            refine lv_if_eq hx hb d_M_read_100 rfl (fun h9 => absurd h9 (by decide)) (fun _ => ?_)
            refine lv_aload_n hx hb d_M_read_103 rfl (lv_at hl 0 rfl) ?_
            refine va_get (D := (dC, dI)) (ci := 2) (v := .ref (a 8)) (C := R_M) (T := F_M) (N := 11) hx hb hB in_M hown hK hP 0 rfl rfl 8 (by decide) (hB _ bw_363) (fun _ h9 => h9) rfl d_M_read_104 ?_
            refine lv_iload_n hx hb d_M_read_107 rfl (lv_at hl 1 rfl) ?_
            refine lv_iconst (v := bI false) hx hb d_M_read_108 (by decide) ?_
            refine va_zast hx hb hK hP hD hS 8 4 rfl rfl (pk_in j 8 (by omega)) d_M_read_109 (fun H locs hP hD hS => ?_)
            rw [cl_nI (by omega), bI_upd] at hP
            have hP : va_P (dC, dI) vwC (mW k a (0, zC r, zW r, zG r, zP r, zS r, zH r, zR r, va_up (zO r) j false, zD r, zL r)) H := hP
            have hD : va_D A (mW k a (0, zC r, zW r, zG r, zP r, zS r, zH r, zR r, va_up (zO r) j false, zD r, zL r)) := mW_D hDk
            refine lv_aload_n hx hb d_M_read_110 rfl (lv_at hl 0 rfl) ?_
            refine lv_dup hx hb d_M_read_111 rfl ?_
            refine va_get (D := (dC, dI)) (ci := 2) (v := .int (zL r)) (C := R_M) (T := F_M) (N := 11) hx hb hB in_M hown hK hP 0 rfl rfl 10 (by decide) (hB _ bw_365) (fun _ h9 => h9) rfl d_M_read_112 ?_
            refine lv_iconst (v := nI 1) hx hb d_M_read_115 (by decide) ?_
            refine lv_iadd hx hb d_M_read_116 ?_
            refine va_put (D := (dC, dI)) (ci := 2) (v := .int ((zL r) + (nI 1))) (ty := .int) (C := R_M) (T := F_M) (N := 11) hx hb hB in_M tf_M ty_M nm_M hown hK hP hD hS 0 rfl rfl 10 (by decide) (hB _ bw_365) (fun _ h9 => h9) rfl (by decide +kernel) rfl rfl (Nat.le_of_ble_eq_true rfl) d_M_read_117 (fun H locs hP hD hS => ?_)
            have hP : va_P (dC, dI) vwC (mW k a (0, zC r, zW r, zG r, zP r, zS r, zH r, zR r, va_up (zO r) j false, zD r, ((zL r) + (nI 1)))) H := hP
            have hD : va_D A (mW k a (0, zC r, zW r, zG r, zP r, zS r, zH r, zR r, va_up (zO r) j false, zD r, ((zL r) + (nI 1)))) := hD
            refine lv_aload_n hx hb d_M_read_120 rfl (lv_at hl 0 rfl) ?_
            refine lv_iconst (v := bI true) hx hb d_M_read_121 (by decide) ?_
            refine lv_iconst (v := 4) hx hb d_M_read_122 (by decide) ?_
            have hFc := va_free (wc := mW k a (0, zC r, zW r, zG r, zP r, zS r, zH r, zR r, va_up (zO r) j false, zD r, ((zL r) + (nI 1)))) hD hS hA [0, 1, 2, 3, 4, 5, 6, 7, 8] rfl
            refine va_calli (va_runV (As := [.int (bI true), .int 4]) (rest := []) ⟨hx, hb, hml, hown, hB⟩ (m_M_fails_t l dC dI k a _ (0, zC r, zW r, zG r, zP r, zS r, zH r, zR r, va_up (zO r) j false, zD r, ((zL r) + (nI 1))) 4 rfl (by decide)) (cwV 2 hB (BIG_V bw_394 bw_395 bw_10 bw_18 bw_396) rfl rfl rfl ⟨rfl, by decide, by decide, by decide +kernel⟩ ⟨Nat.le_of_ble_eq_true rfl, Nat.le_of_ble_eq_true rfl⟩) (mPc_pre _ hP hK hD) rfl rfl hl.1 rfl (lv_room (Nat.le_of_ble_eq_true rfl)) d_M_read_123 ⟨Nat.zero_le _, Nat.zero_le _⟩) hS (fun q _ h => hFc q h) hFc (fun r7 u t H1 locs ht hvm hw hB1 hz1 hk1 hS => ?_)
            obtain ⟨hw1, hw2⟩ := hw
            subst hw1
            subst hw2
            have hP : va_P (dC, dI) vwC (mW k a (zErr (0, zC r, zW r, zG r, zP r, zS r, zH r, zR r, va_up (zO r) j false, zD r, ((zL r) + (nI 1))) 4)) H1 := by rw [← ht]; exact hB1
            have hD : va_D A (mW k a (zErr (0, zC r, zW r, zG r, zP r, zS r, zH r, zR r, va_up (zO r) j false, zD r, ((zL r) + (nI 1))) 4)) := mW_D hDk
            clear hFc hB1 hk1 hz1 ht hvm
            generalize H1 = H at hP hS ⊢
            have hP : va_P (dC, dI) vwC (mW k a (4, zC r, zW r, zG r, zP r, zS r, zH r, zR r, va_up (zO r) j false, zD r, ((zL r) + (nI 1)))) H := hP
            have hD : va_D A (mW k a (4, zC r, zW r, zG r, zP r, zS r, zH r, zR r, va_up (zO r) j false, zD r, ((zL r) + (nI 1)))) := hD
            refine lv_pop hx hb d_M_read_126 rfl ?_
            refine lv_lconst (v := 0) hx hb d_M_read_127 (by decide) ?_
            exact W.lret (v := 0) hx hb hr (fun t ht hW => ⟨⟨0, (4, zC r, zW r, zG r, zP r, zS r, zH r, zR r, va_up (zO r) j false, zD r, ((zL r) + (nI 1))), rfl, by unfold zRead; rw [hq]; dsimp only; rw [hy]; dsimp only; rw [if_neg (by rw [ho]; decide)]; rw [if_neg (by rw [hh]; decide)]; rw [if_pos hs]; first | done | rfl, by show va_P (dC, dI) vwC _ t.heap; rw [ht]; exact hP⟩, hS.F ht⟩) hS.2.2 d_M_read_128
          | false =>
            cases hrd : zR r (32 * j + i) with
            | true =>
              refine lv_if_eq hx hb d_M_read_100 rfl (fun _ => ?_) (fun h9 => absurd (by decide) h9)
              refine lv_aload_n hx hb d_M_read_129 rfl (lv_at hl 0 rfl) ?_
              refine va_get (D := (dC, dI)) (ci := 2) (v := .ref (a 7)) (C := R_M) (T := F_M) (N := 11) hx hb hB in_M hown hK hP 0 rfl rfl 7 (by decide) (hB _ bw_362) (fun _ h9 => h9) rfl d_M_read_130 ?_
              refine lv_bipush (v := nI 32) hx hb d_M_read_133 (by decide) ?_
              refine lv_iload_n hx hb d_M_read_135 rfl (lv_at hl 1 rfl) ?_
              refine lv_imul hx hb d_M_read_136 ?_
              refine W.eq (g2 := F0 m 137 ls [.int (nI (32 * j)), .ref (a 7)]) (by rw [pk_mul]) ?_
              refine lv_iload_n hx hb d_M_read_137 rfl (lv_at hl 2 rfl) ?_
              refine lv_iadd hx hb d_M_read_138 ?_
              refine W.eq (g2 := F0 m 139 ls [.int (nI ((32 * j) + i)), .ref (a 7)]) (by rw [nI_add]) ?_
              refine va_zald hx hb hK hP 7 4 rfl rfl (pk_in ((32 * j) + i) 256 (by omega)) d_M_read_139 ?_
              refine W.eq (g2 := F0 m 140 ls [.int (bI (zR r ((32 * j) + i)))]) (by rw [cl_nI (by omega)]) ?_
              refine W.eq (g2 := F0 m 140 ls [.int (bI true)]) (by rw [hrd]) ?_
              refine lv_if_ne hx hb d_M_read_140 rfl (fun _ => ?_) (fun h9 => absurd h9 (by decide))
              refine lv_aload_n hx hb d_M_read_160 rfl (lv_at hl 0 rfl) ?_
              refine va_get (D := (dC, dI)) (ci := 2) (v := .ref (a 7)) (C := R_M) (T := F_M) (N := 11) hx hb hB in_M hown hK hP 0 rfl rfl 7 (by decide) (hB _ bw_362) (fun _ h9 => h9) rfl d_M_read_161 ?_
              refine lv_bipush (v := nI 32) hx hb d_M_read_164 (by decide) ?_
              refine lv_iload_n hx hb d_M_read_166 rfl (lv_at hl 1 rfl) ?_
              refine lv_imul hx hb d_M_read_167 ?_
              refine W.eq (g2 := F0 m 168 ls [.int (nI (32 * j)), .ref (a 7)]) (by rw [pk_mul]) ?_
              refine lv_iload_n hx hb d_M_read_168 rfl (lv_at hl 2 rfl) ?_
              refine lv_iadd hx hb d_M_read_169 ?_
              refine W.eq (g2 := F0 m 170 ls [.int (nI ((32 * j) + i)), .ref (a 7)]) (by rw [nI_add]) ?_
              refine lv_iconst (v := bI true) hx hb d_M_read_170 (by decide) ?_
              refine va_zast hx hb hK hP hD hS 7 4 rfl rfl (pk_in ((32 * j) + i) 256 (by omega)) d_M_read_171 (fun H locs hP hD hS => ?_)
              rw [cl_nI (by omega), bI_upd] at hP
              have hP : va_P (dC, dI) vwC (mW k a (0, zC r, zW r, zG r, zP r, zS r, zH r, va_up (zR r) ((32 * j) + i) true, zO r, zD r, zL r)) H := hP
              have hD : va_D A (mW k a (0, zC r, zW r, zG r, zP r, zS r, zH r, va_up (zR r) ((32 * j) + i) true, zO r, zD r, zL r)) := mW_D hDk
              refine lv_aload_n hx hb d_M_read_172 rfl (lv_at hl 0 rfl) ?_
              refine va_get (D := (dC, dI)) (ci := 2) (v := .ref (a 1)) (C := R_M) (T := F_M) (N := 11) hx hb hB in_M hown hK hP 0 rfl rfl 1 (by decide) (hB _ bw_356) (fun _ h9 => h9) rfl d_M_read_173 ?_
              refine lv_iload_n hx hb d_M_read_176 rfl (lv_at hl 2 rfl) ?_
              refine va_lald hx hb hK hP 1 1 rfl rfl (pk_in i 32 (by omega)) d_M_read_177 ?_
              refine W.eq (g2 := F0 m 178 ls [.long (zC r i)]) (by rw [cl_nI (by omega)]) ?_
              exact W.lret (v := zC r i) hx hb hr (fun t ht hW => ⟨⟨zC r i, (0, zC r, zW r, zG r, zP r, zS r, zH r, va_up (zR r) ((32 * j) + i) true, zO r, zD r, zL r), rfl, by unfold zRead; rw [hq]; dsimp only; rw [hy]; dsimp only; rw [if_neg (by rw [ho]; decide)]; rw [if_neg (by rw [hh]; decide)]; rw [if_neg (by rw [hs]; decide)]; rw [if_pos hrd]; first | done | rfl, by show va_P (dC, dI) vwC _ t.heap; rw [ht]; exact hP⟩, hS.F ht⟩) hS.2.2 d_M_read_178
            | false =>
              refine lv_if_eq hx hb d_M_read_100 rfl (fun _ => ?_) (fun h9 => absurd (by decide) h9)
              refine lv_aload_n hx hb d_M_read_129 rfl (lv_at hl 0 rfl) ?_
              refine va_get (D := (dC, dI)) (ci := 2) (v := .ref (a 7)) (C := R_M) (T := F_M) (N := 11) hx hb hB in_M hown hK hP 0 rfl rfl 7 (by decide) (hB _ bw_362) (fun _ h9 => h9) rfl d_M_read_130 ?_
              refine lv_bipush (v := nI 32) hx hb d_M_read_133 (by decide) ?_
              refine lv_iload_n hx hb d_M_read_135 rfl (lv_at hl 1 rfl) ?_
              refine lv_imul hx hb d_M_read_136 ?_
              refine W.eq (g2 := F0 m 137 ls [.int (nI (32 * j)), .ref (a 7)]) (by rw [pk_mul]) ?_
              refine lv_iload_n hx hb d_M_read_137 rfl (lv_at hl 2 rfl) ?_
              refine lv_iadd hx hb d_M_read_138 ?_
              refine W.eq (g2 := F0 m 139 ls [.int (nI ((32 * j) + i)), .ref (a 7)]) (by rw [nI_add]) ?_
              refine va_zald hx hb hK hP 7 4 rfl rfl (pk_in ((32 * j) + i) 256 (by omega)) d_M_read_139 ?_
              refine W.eq (g2 := F0 m 140 ls [.int (bI (zR r ((32 * j) + i)))]) (by rw [cl_nI (by omega)]) ?_
              refine W.eq (g2 := F0 m 140 ls [.int (bI false)]) (by rw [hrd]) ?_
              refine lv_if_ne hx hb d_M_read_140 rfl (fun h9 => absurd h9 (by decide)) (fun _ => ?_)
              refine lv_aload_n hx hb d_M_read_143 rfl (lv_at hl 0 rfl) ?_
              refine va_get (D := (dC, dI)) (ci := 2) (v := .ref (a 5)) (C := R_M) (T := F_M) (N := 11) hx hb hB in_M hown hK hP 0 rfl rfl 5 (by decide) (hB _ bw_360) (fun _ h9 => h9) rfl d_M_read_144 ?_
              refine lv_bipush (v := nI 32) hx hb d_M_read_147 (by decide) ?_
              refine lv_iload_n hx hb d_M_read_149 rfl (lv_at hl 1 rfl) ?_
              refine lv_imul hx hb d_M_read_150 ?_
              refine W.eq (g2 := F0 m 151 ls [.int (nI (32 * j)), .ref (a 5)]) (by rw [pk_mul]) ?_
              refine lv_iload_n hx hb d_M_read_151 rfl (lv_at hl 2 rfl) ?_
              refine lv_iadd hx hb d_M_read_152 ?_
              refine W.eq (g2 := F0 m 153 ls [.int (nI ((32 * j) + i)), .ref (a 5)]) (by rw [nI_add]) ?_
              refine lv_aload_n hx hb d_M_read_153 rfl (lv_at hl 0 rfl) ?_
              refine va_get (D := (dC, dI)) (ci := 2) (v := .ref (a 3)) (C := R_M) (T := F_M) (N := 11) hx hb hB in_M hown hK hP 0 rfl rfl 3 (by decide) (hB _ bw_358) (fun _ h9 => h9) rfl d_M_read_154 ?_
              refine lv_iload_n hx hb d_M_read_157 rfl (lv_at hl 2 rfl) ?_
              refine va_iald hx hb hK hP 3 0 rfl rfl (pk_in i 32 (by omega)) d_M_read_158 ?_
              refine W.eq (g2 := F0 m 159 ls [.int (zG r i), .int (nI ((32 * j) + i)), .ref (a 5)]) (by rw [cl_nI (by omega)]) ?_
              refine va_iast hx hb hK hP hD hS 5 0 rfl rfl (pk_in ((32 * j) + i) 256 (by omega)) d_M_read_159 (fun H locs hP hD hS => ?_)
              rw [cl_nI (by omega)] at hP
              have hP : va_P (dC, dI) vwC (mW k a (0, zC r, zW r, zG r, zP r, upd (zS r) ((32 * j) + i) (zG r i), zH r, zR r, zO r, zD r, zL r)) H := hP
              have hD : va_D A (mW k a (0, zC r, zW r, zG r, zP r, upd (zS r) ((32 * j) + i) (zG r i), zH r, zR r, zO r, zD r, zL r)) := mW_D hDk
              refine lv_aload_n hx hb d_M_read_160 rfl (lv_at hl 0 rfl) ?_
              refine va_get (D := (dC, dI)) (ci := 2) (v := .ref (a 7)) (C := R_M) (T := F_M) (N := 11) hx hb hB in_M hown hK hP 0 rfl rfl 7 (by decide) (hB _ bw_362) (fun _ h9 => h9) rfl d_M_read_161 ?_
              refine lv_bipush (v := nI 32) hx hb d_M_read_164 (by decide) ?_
              refine lv_iload_n hx hb d_M_read_166 rfl (lv_at hl 1 rfl) ?_
              refine lv_imul hx hb d_M_read_167 ?_
              refine W.eq (g2 := F0 m 168 ls [.int (nI (32 * j)), .ref (a 7)]) (by rw [pk_mul]) ?_
              refine lv_iload_n hx hb d_M_read_168 rfl (lv_at hl 2 rfl) ?_
              refine lv_iadd hx hb d_M_read_169 ?_
              refine W.eq (g2 := F0 m 170 ls [.int (nI ((32 * j) + i)), .ref (a 7)]) (by rw [nI_add]) ?_
              refine lv_iconst (v := bI true) hx hb d_M_read_170 (by decide) ?_
              refine va_zast hx hb hK hP hD hS 7 4 rfl rfl (pk_in ((32 * j) + i) 256 (by omega)) d_M_read_171 (fun H locs hP hD hS => ?_)
              rw [cl_nI (by omega), bI_upd] at hP
              have hP : va_P (dC, dI) vwC (mW k a (0, zC r, zW r, zG r, zP r, upd (zS r) ((32 * j) + i) (zG r i), zH r, va_up (zR r) ((32 * j) + i) true, zO r, zD r, zL r)) H := hP
              have hD : va_D A (mW k a (0, zC r, zW r, zG r, zP r, upd (zS r) ((32 * j) + i) (zG r i), zH r, va_up (zR r) ((32 * j) + i) true, zO r, zD r, zL r)) := mW_D hDk
              refine lv_aload_n hx hb d_M_read_172 rfl (lv_at hl 0 rfl) ?_
              refine va_get (D := (dC, dI)) (ci := 2) (v := .ref (a 1)) (C := R_M) (T := F_M) (N := 11) hx hb hB in_M hown hK hP 0 rfl rfl 1 (by decide) (hB _ bw_356) (fun _ h9 => h9) rfl d_M_read_173 ?_
              refine lv_iload_n hx hb d_M_read_176 rfl (lv_at hl 2 rfl) ?_
              refine va_lald hx hb hK hP 1 1 rfl rfl (pk_in i 32 (by omega)) d_M_read_177 ?_
              refine W.eq (g2 := F0 m 178 ls [.long (zC r i)]) (by rw [cl_nI (by omega)]) ?_
              exact W.lret (v := zC r i) hx hb hr (fun t ht hW => ⟨⟨zC r i, (0, zC r, zW r, zG r, zP r, upd (zS r) ((32 * j) + i) (zG r i), zH r, va_up (zR r) ((32 * j) + i) true, zO r, zD r, zL r), rfl, by unfold zRead; rw [hq]; dsimp only; rw [hy]; dsimp only; rw [if_neg (by rw [ho]; decide)]; rw [if_neg (by rw [hh]; decide)]; rw [if_neg (by rw [hs]; decide)]; rw [if_neg (by rw [hrd]; decide)]; first | done | rfl, by show va_P (dC, dI) vwC _ t.heap; rw [ht]; exact hP⟩, hS.F ht⟩) hS.2.2 d_M_read_178
set_option maxHeartbeats 4000000 in
set_option maxRecDepth 100000 in
theorem m_M_done (l : Launch) (dC : Nat → ClassId) (dI : Nat → Nat → Nat) (k : Nat → ClassId) (a : Nat → Nat) (sz : Nat) (r : xRS) (tt : Int32) (hok : mOk r) : Met l y_M_done w_M_done (rmx 2 0 0 80) (mPc dC dI k a sz r [.ref (a 0), .int tt]) (va_Qi (fun o u => ∃ b8, o = bI b8 ∧ (b8, u) = zDone r tt) (mB dC dI k a) (va_A (mW k a r) sz)) 0 0 (va_A (mW k a r) sz) := by
  refine Met.ofW (cc := c_M_done) (maxL := 3) (ret := (some .boolean)) (by decide) rfl ?_
  intro p e s m args below meth c s₁ B hml hv
  obtain ⟨rfl, hsz, hP, hK, hD0⟩ := hv
  have hx := B.exec
  have hb := B.bytes
  have hr := B.returns
  have hts := atoms_spec (ws := w_M_done) B.pre
  have hB : ∀ w ∈ BIG, w.before _ s = true := fun w h => hts w (List.mem_cons_of_mem _ h)
  have hown : s.vm.findClass R_M = some m.cls := findClass_of_methodNamed B.named
  have hlocks := B.notSynchronized
  have hl := lv_entry ([.ref (a 0), .int tt]) (n := 3) (Nat.le_of_ble_eq_true rfl)
  rw [lg_entry_eq]
  generalize (lg_sl ([.ref (a 0), .int tt]) ++ List.replicate (3 - (lg_sl ([.ref (a 0), .int tt])).length) Slot.unset).toArray = ls at hl ⊢
  have hl : lv_has ls 3 [(0, .ref (a 0)), (1, .int tt)] := hl
  subst hsz
  have hD := hD0.self (sz := s.heap.size)
  generalize hAe : va_A (mW k a r) s.heap.size = A at hD ⊢
  have hA : ∀ q : Nat, s.heap.size ≤ q → A q := fun q h => by rw [← hAe]; exact Or.inr h
  have hS : va_S A s.heap s.heap [] := va_S.rf
  have hDk := hD
  cases hq : ix 8 tt with
  | none =>
    refine lv_aload_n hx hb d_M_done_0 rfl (lv_at hl 0 rfl) ?_
    refine lv_iconst (v := 0) hx hb d_M_done_1 (by decide) ?_
    refine va_put (D := (dC, dI)) (ci := 2) (v := .int 0) (ty := .int) (C := R_M) (T := F_M) (N := 11) hx hb hB in_M tf_M ty_M nm_M hown hK hP hD hS 0 rfl rfl 0 (by decide) (hB _ bw_355) (fun _ h9 => h9) rfl (by decide +kernel) rfl rfl (Nat.le_of_ble_eq_true rfl) d_M_done_2 (fun H locs hP hD hS => ?_)
    have hP : va_P (dC, dI) vwC (mW k a (0, zC r, zW r, zG r, zP r, zS r, zH r, zR r, zO r, zD r, zL r)) H := hP
    have hD : va_D A (mW k a (0, zC r, zW r, zG r, zP r, zS r, zH r, zR r, zO r, zD r, zL r)) := hD
    refine lv_aload_n hx hb d_M_done_5 rfl (lv_at hl 0 rfl) ?_
    refine lv_iload_n hx hb d_M_done_6 rfl (lv_at hl 1 rfl) ?_
    refine vp_callSi (va_Run.run (va_runS (As := [.int tt]) (rest := [.ref (a 0)]) ⟨hx, hb, hml, hown, hB⟩ (m_M_isOne l tt) (va_cwS 1 hB (BIG_SS bw_387 bw_388 bw_18 bw_389) rfl rfl rfl ⟨by decide, by decide, by decide +kernel⟩ ⟨Nat.le_of_ble_eq_true rfl, Nat.le_of_ble_eq_true rfl⟩) preEq rfl rfl hl.1 rfl (lv_room (Nat.le_of_ble_eq_true rfl)) d_M_done_7 ⟨Nat.zero_le _, Nat.zero_le _⟩)) (fun r7 hr7 => ?_)
    refine W.eq (g2 := F0 m 10 ls [.int (bI false), .ref (a 0)]) (by rw [hr7, hq]; rfl) ?_
    refine lv_if_ne hx hb d_M_done_10 rfl (fun h9 => absurd h9 (by decide)) (fun _ => ?_)
    refine lv_iconst (v := bI true) hx hb d_M_done_13 (by decide) ?_
    refine lv_goto hx hb d_M_done_14 rfl ?_
    refine lv_iconst (v := 1) hx hb d_M_done_18 (by decide) ?_
    have hFc := va_free (wc := mW k a (0, zC r, zW r, zG r, zP r, zS r, zH r, zR r, zO r, zD r, zL r)) hD hS hA [0, 1, 2, 3, 4, 5, 6, 7, 8] rfl
    refine va_calli (va_runV (As := [.int (bI true), .int 1]) (rest := []) ⟨hx, hb, hml, hown, hB⟩ (m_M_fails_t l dC dI k a _ (0, zC r, zW r, zG r, zP r, zS r, zH r, zR r, zO r, zD r, zL r) 1 rfl (by decide)) (cwV 2 hB (BIG_V bw_394 bw_395 bw_10 bw_18 bw_396) rfl rfl rfl ⟨rfl, by decide, by decide, by decide +kernel⟩ ⟨Nat.le_of_ble_eq_true rfl, Nat.le_of_ble_eq_true rfl⟩) (mPc_pre _ hP hK hD) rfl rfl hl.1 rfl (lv_room (Nat.le_of_ble_eq_true rfl)) d_M_done_19 ⟨Nat.zero_le _, Nat.zero_le _⟩) hS (fun q _ h => hFc q h) hFc (fun r7 u t H1 locs ht hvm hw hB1 hz1 hk1 hS => ?_)
    obtain ⟨hw1, hw2⟩ := hw
    subst hw1
    subst hw2
    have hP : va_P (dC, dI) vwC (mW k a (zErr (0, zC r, zW r, zG r, zP r, zS r, zH r, zR r, zO r, zD r, zL r) 1)) H1 := by rw [← ht]; exact hB1
    have hD : va_D A (mW k a (zErr (0, zC r, zW r, zG r, zP r, zS r, zH r, zR r, zO r, zD r, zL r) 1)) := mW_D hDk
    clear hFc hB1 hk1 hz1 ht hvm
    generalize H1 = H at hP hS ⊢
    have hP : va_P (dC, dI) vwC (mW k a (1, zC r, zW r, zG r, zP r, zS r, zH r, zR r, zO r, zD r, zL r)) H := hP
    have hD : va_D A (mW k a (1, zC r, zW r, zG r, zP r, zS r, zH r, zR r, zO r, zD r, zL r)) := hD
    refine lv_if_ne hx hb d_M_done_22 rfl (fun _ => ?_) (fun h9 => absurd h9 (by decide))
    refine lv_iconst (v := bI false) hx hb d_M_done_47 (by decide) ?_
    exact W.zret (v := bI false) hx hb hr (bI_nar _) (fun t ht hW => ⟨⟨bI false, (1, zC r, zW r, zG r, zP r, zS r, zH r, zR r, zO r, zD r, zL r), rfl, ⟨false, rfl, by unfold zDone; rw [hq]; first | done | rfl⟩, by show va_P (dC, dI) vwC _ t.heap; rw [ht]; exact hP⟩, hS.F ht⟩) hS.2.2 d_M_done_48
  | some j =>
    obtain ⟨hj, htj⟩ := ix_some (by decide) hq
    subst htj
    cases ho : zO r j with
    | false =>
      refine lv_aload_n hx hb d_M_done_0 rfl (lv_at hl 0 rfl) ?_
      refine lv_iconst (v := 0) hx hb d_M_done_1 (by decide) ?_
      refine va_put (D := (dC, dI)) (ci := 2) (v := .int 0) (ty := .int) (C := R_M) (T := F_M) (N := 11) hx hb hB in_M tf_M ty_M nm_M hown hK hP hD hS 0 rfl rfl 0 (by decide) (hB _ bw_355) (fun _ h9 => h9) rfl (by decide +kernel) rfl rfl (Nat.le_of_ble_eq_true rfl) d_M_done_2 (fun H locs hP hD hS => ?_)
      have hP : va_P (dC, dI) vwC (mW k a (0, zC r, zW r, zG r, zP r, zS r, zH r, zR r, zO r, zD r, zL r)) H := hP
      have hD : va_D A (mW k a (0, zC r, zW r, zG r, zP r, zS r, zH r, zR r, zO r, zD r, zL r)) := hD
      refine lv_aload_n hx hb d_M_done_5 rfl (lv_at hl 0 rfl) ?_
      refine lv_iload_n hx hb d_M_done_6 rfl (lv_at hl 1 rfl) ?_
      refine vp_callSi (va_Run.run (va_runS (As := [.int (nI j)]) (rest := [.ref (a 0)]) ⟨hx, hb, hml, hown, hB⟩ (m_M_isOne l (nI j)) (va_cwS 1 hB (BIG_SS bw_387 bw_388 bw_18 bw_389) rfl rfl rfl ⟨by decide, by decide, by decide +kernel⟩ ⟨Nat.le_of_ble_eq_true rfl, Nat.le_of_ble_eq_true rfl⟩) preEq rfl rfl hl.1 rfl (lv_room (Nat.le_of_ble_eq_true rfl)) d_M_done_7 ⟨Nat.zero_le _, Nat.zero_le _⟩)) (fun r7 hr7 => ?_)
      refine W.eq (g2 := F0 m 10 ls [.int (bI true), .ref (a 0)]) (by rw [hr7, hq]; rfl) ?_
      refine lv_if_ne hx hb d_M_done_10 rfl (fun _ => ?_) (fun h9 => absurd h9 (by decide))
      refine lv_iconst (v := bI false) hx hb d_M_done_17 (by decide) ?_
      refine lv_iconst (v := 1) hx hb d_M_done_18 (by decide) ?_
      have hFc := va_free (wc := mW k a (0, zC r, zW r, zG r, zP r, zS r, zH r, zR r, zO r, zD r, zL r)) hD hS hA [0, 1, 2, 3, 4, 5, 6, 7, 8] rfl
      refine va_calli (va_runV (As := [.int (bI false), .int 1]) (rest := []) ⟨hx, hb, hml, hown, hB⟩ (m_M_fails_f l dC dI k a _ (0, zC r, zW r, zG r, zP r, zS r, zH r, zR r, zO r, zD r, zL r) 1 rfl) (cwV 2 hB (BIG_V bw_394 bw_395 bw_10 bw_18 bw_396) rfl rfl rfl ⟨rfl, by decide, by decide, by decide +kernel⟩ ⟨Nat.le_of_ble_eq_true rfl, Nat.le_of_ble_eq_true rfl⟩) (mPc_pre _ hP hK hD) rfl rfl hl.1 rfl (lv_room (Nat.le_of_ble_eq_true rfl)) d_M_done_19 ⟨Nat.zero_le _, Nat.zero_le _⟩) hS (fun q _ h => hFc q h) hFc (fun r7 u t H1 locs ht hvm hw hB1 hz1 hk1 hS => ?_)
      obtain ⟨hw1, hw2⟩ := hw
      subst hw1
      subst hw2
      have hP : va_P (dC, dI) vwC (mW k a (0, zC r, zW r, zG r, zP r, zS r, zH r, zR r, zO r, zD r, zL r)) H1 := by rw [← ht]; exact hB1
      have hD : va_D A (mW k a (0, zC r, zW r, zG r, zP r, zS r, zH r, zR r, zO r, zD r, zL r)) := mW_D hDk
      clear hFc hB1 hk1 hz1 ht hvm
      generalize H1 = H at hP hS ⊢
      refine lv_if_ne hx hb d_M_done_22 rfl (fun h9 => absurd h9 (by decide)) (fun _ => ?_)
      refine lv_aload_n hx hb d_M_done_25 rfl (lv_at hl 0 rfl) ?_
      refine lv_aload_n hx hb d_M_done_26 rfl (lv_at hl 0 rfl) ?_
      refine va_get (D := (dC, dI)) (ci := 2) (v := .ref (a 8)) (C := R_M) (T := F_M) (N := 11) hx hb hB in_M hown hK hP 0 rfl rfl 8 (by decide) (hB _ bw_363) (fun _ h9 => h9) rfl d_M_done_27 ?_
      refine lv_iload_n hx hb d_M_done_30 rfl (lv_at hl 1 rfl) ?_
      refine va_zald hx hb hK hP 8 4 rfl rfl (pk_in j 8 (by omega)) d_M_done_31 ?_
      refine W.eq (g2 := F0 m 32 ls [.int (bI (zO r j)), .ref (a 0)]) (by rw [cl_nI (by omega)]) ?_
      refine W.eq (g2 := F0 m 32 ls [.int (bI false), .ref (a 0)]) (by rw [ho]) ?_
      refine lv_if_ne hx hb d_M_done_32 rfl (fun h9 => absurd h9 (by decide)) (fun _ => ?_)
      refine lv_iconst (v := bI true) hx hb d_M_done_35 (by decide) ?_
      refine lv_goto hx hb d_M_done_36 rfl ?_
      refine lv_iconst (v := 2) hx hb d_M_done_40 (by decide) ?_
      have hFc := va_free (wc := mW k a (0, zC r, zW r, zG r, zP r, zS r, zH r, zR r, zO r, zD r, zL r)) hD hS hA [0, 1, 2, 3, 4, 5, 6, 7, 8] rfl
      refine va_calli (va_runV (As := [.int (bI true), .int 2]) (rest := []) ⟨hx, hb, hml, hown, hB⟩ (m_M_fails_t l dC dI k a _ (0, zC r, zW r, zG r, zP r, zS r, zH r, zR r, zO r, zD r, zL r) 2 rfl (by decide)) (cwV 2 hB (BIG_V bw_394 bw_395 bw_10 bw_18 bw_396) rfl rfl rfl ⟨rfl, by decide, by decide, by decide +kernel⟩ ⟨Nat.le_of_ble_eq_true rfl, Nat.le_of_ble_eq_true rfl⟩) (mPc_pre _ hP hK hD) rfl rfl hl.1 rfl (lv_room (Nat.le_of_ble_eq_true rfl)) d_M_done_41 ⟨Nat.zero_le _, Nat.zero_le _⟩) hS (fun q _ h => hFc q h) hFc (fun r7 u t H1 locs ht hvm hw hB1 hz1 hk1 hS => ?_)
      obtain ⟨hw1, hw2⟩ := hw
      subst hw1
      subst hw2
      have hP : va_P (dC, dI) vwC (mW k a (zErr (0, zC r, zW r, zG r, zP r, zS r, zH r, zR r, zO r, zD r, zL r) 2)) H1 := by rw [← ht]; exact hB1
      have hD : va_D A (mW k a (zErr (0, zC r, zW r, zG r, zP r, zS r, zH r, zR r, zO r, zD r, zL r) 2)) := mW_D hDk
      clear hFc hB1 hk1 hz1 ht hvm
      generalize H1 = H at hP hS ⊢
      have hP : va_P (dC, dI) vwC (mW k a (2, zC r, zW r, zG r, zP r, zS r, zH r, zR r, zO r, zD r, zL r)) H := hP
      have hD : va_D A (mW k a (2, zC r, zW r, zG r, zP r, zS r, zH r, zR r, zO r, zD r, zL r)) := hD
      refine lv_if_eq hx hb d_M_done_44 rfl (fun h9 => absurd h9 (by decide)) (fun _ => ?_)
      refine lv_iconst (v := bI false) hx hb d_M_done_47 (by decide) ?_
      exact W.zret (v := bI false) hx hb hr (bI_nar _) (fun t ht hW => ⟨⟨bI false, (2, zC r, zW r, zG r, zP r, zS r, zH r, zR r, zO r, zD r, zL r), rfl, ⟨false, rfl, by unfold zDone; rw [hq]; dsimp only; rw [if_pos ho]; first | done | rfl⟩, by show va_P (dC, dI) vwC _ t.heap; rw [ht]; exact hP⟩, hS.F ht⟩) hS.2.2 d_M_done_48
    | true =>
      obtain ⟨hp1, hp5⟩ := hok j hj ho
      refine lv_aload_n hx hb d_M_done_0 rfl (lv_at hl 0 rfl) ?_
      refine lv_iconst (v := 0) hx hb d_M_done_1 (by decide) ?_
      refine va_put (D := (dC, dI)) (ci := 2) (v := .int 0) (ty := .int) (C := R_M) (T := F_M) (N := 11) hx hb hB in_M tf_M ty_M nm_M hown hK hP hD hS 0 rfl rfl 0 (by decide) (hB _ bw_355) (fun _ h9 => h9) rfl (by decide +kernel) rfl rfl (Nat.le_of_ble_eq_true rfl) d_M_done_2 (fun H locs hP hD hS => ?_)
      have hP : va_P (dC, dI) vwC (mW k a (0, zC r, zW r, zG r, zP r, zS r, zH r, zR r, zO r, zD r, zL r)) H := hP
      have hD : va_D A (mW k a (0, zC r, zW r, zG r, zP r, zS r, zH r, zR r, zO r, zD r, zL r)) := hD
      refine lv_aload_n hx hb d_M_done_5 rfl (lv_at hl 0 rfl) ?_
      refine lv_iload_n hx hb d_M_done_6 rfl (lv_at hl 1 rfl) ?_
      refine vp_callSi (va_Run.run (va_runS (As := [.int (nI j)]) (rest := [.ref (a 0)]) ⟨hx, hb, hml, hown, hB⟩ (m_M_isOne l (nI j)) (va_cwS 1 hB (BIG_SS bw_387 bw_388 bw_18 bw_389) rfl rfl rfl ⟨by decide, by decide, by decide +kernel⟩ ⟨Nat.le_of_ble_eq_true rfl, Nat.le_of_ble_eq_true rfl⟩) preEq rfl rfl hl.1 rfl (lv_room (Nat.le_of_ble_eq_true rfl)) d_M_done_7 ⟨Nat.zero_le _, Nat.zero_le _⟩)) (fun r7 hr7 => ?_)
      refine W.eq (g2 := F0 m 10 ls [.int (bI true), .ref (a 0)]) (by rw [hr7, hq]; rfl) ?_
      refine lv_if_ne hx hb d_M_done_10 rfl (fun _ => ?_) (fun h9 => absurd h9 (by decide))
      refine lv_iconst (v := bI false) hx hb d_M_done_17 (by decide) ?_
      refine lv_iconst (v := 1) hx hb d_M_done_18 (by decide) ?_
      have hFc := va_free (wc := mW k a (0, zC r, zW r, zG r, zP r, zS r, zH r, zR r, zO r, zD r, zL r)) hD hS hA [0, 1, 2, 3, 4, 5, 6, 7, 8] rfl
      refine va_calli (va_runV (As := [.int (bI false), .int 1]) (rest := []) ⟨hx, hb, hml, hown, hB⟩ (m_M_fails_f l dC dI k a _ (0, zC r, zW r, zG r, zP r, zS r, zH r, zR r, zO r, zD r, zL r) 1 rfl) (cwV 2 hB (BIG_V bw_394 bw_395 bw_10 bw_18 bw_396) rfl rfl rfl ⟨rfl, by decide, by decide, by decide +kernel⟩ ⟨Nat.le_of_ble_eq_true rfl, Nat.le_of_ble_eq_true rfl⟩) (mPc_pre _ hP hK hD) rfl rfl hl.1 rfl (lv_room (Nat.le_of_ble_eq_true rfl)) d_M_done_19 ⟨Nat.zero_le _, Nat.zero_le _⟩) hS (fun q _ h => hFc q h) hFc (fun r7 u t H1 locs ht hvm hw hB1 hz1 hk1 hS => ?_)
      obtain ⟨hw1, hw2⟩ := hw
      subst hw1
      subst hw2
      have hP : va_P (dC, dI) vwC (mW k a (0, zC r, zW r, zG r, zP r, zS r, zH r, zR r, zO r, zD r, zL r)) H1 := by rw [← ht]; exact hB1
      have hD : va_D A (mW k a (0, zC r, zW r, zG r, zP r, zS r, zH r, zR r, zO r, zD r, zL r)) := mW_D hDk
      clear hFc hB1 hk1 hz1 ht hvm
      generalize H1 = H at hP hS ⊢
      refine lv_if_ne hx hb d_M_done_22 rfl (fun h9 => absurd h9 (by decide)) (fun _ => ?_)
      refine lv_aload_n hx hb d_M_done_25 rfl (lv_at hl 0 rfl) ?_
      refine lv_aload_n hx hb d_M_done_26 rfl (lv_at hl 0 rfl) ?_
      refine va_get (D := (dC, dI)) (ci := 2) (v := .ref (a 8)) (C := R_M) (T := F_M) (N := 11) hx hb hB in_M hown hK hP 0 rfl rfl 8 (by decide) (hB _ bw_363) (fun _ h9 => h9) rfl d_M_done_27 ?_
      refine lv_iload_n hx hb d_M_done_30 rfl (lv_at hl 1 rfl) ?_
      refine va_zald hx hb hK hP 8 4 rfl rfl (pk_in j 8 (by omega)) d_M_done_31 ?_
      refine W.eq (g2 := F0 m 32 ls [.int (bI (zO r j)), .ref (a 0)]) (by rw [cl_nI (by omega)]) ?_
      refine W.eq (g2 := F0 m 32 ls [.int (bI true), .ref (a 0)]) (by rw [ho]) ?_
      refine lv_if_ne hx hb d_M_done_32 rfl (fun _ => ?_) (fun h9 => absurd h9 (by decide))
      refine lv_iconst (v := bI false) hx hb d_M_done_39 (by decide) ?_
      refine lv_iconst (v := 2) hx hb d_M_done_40 (by decide) ?_
      have hFc := va_free (wc := mW k a (0, zC r, zW r, zG r, zP r, zS r, zH r, zR r, zO r, zD r, zL r)) hD hS hA [0, 1, 2, 3, 4, 5, 6, 7, 8] rfl
      refine va_calli (va_runV (As := [.int (bI false), .int 2]) (rest := []) ⟨hx, hb, hml, hown, hB⟩ (m_M_fails_f l dC dI k a _ (0, zC r, zW r, zG r, zP r, zS r, zH r, zR r, zO r, zD r, zL r) 2 rfl) (cwV 2 hB (BIG_V bw_394 bw_395 bw_10 bw_18 bw_396) rfl rfl rfl ⟨rfl, by decide, by decide, by decide +kernel⟩ ⟨Nat.le_of_ble_eq_true rfl, Nat.le_of_ble_eq_true rfl⟩) (mPc_pre _ hP hK hD) rfl rfl hl.1 rfl (lv_room (Nat.le_of_ble_eq_true rfl)) d_M_done_41 ⟨Nat.zero_le _, Nat.zero_le _⟩) hS (fun q _ h => hFc q h) hFc (fun r7 u t H1 locs ht hvm hw hB1 hz1 hk1 hS => ?_)
      obtain ⟨hw1, hw2⟩ := hw
      subst hw1
      subst hw2
      have hP : va_P (dC, dI) vwC (mW k a (0, zC r, zW r, zG r, zP r, zS r, zH r, zR r, zO r, zD r, zL r)) H1 := by rw [← ht]; exact hB1
      have hD : va_D A (mW k a (0, zC r, zW r, zG r, zP r, zS r, zH r, zR r, zO r, zD r, zL r)) := mW_D hDk
      clear hFc hB1 hk1 hz1 ht hvm
      generalize H1 = H at hP hS ⊢
      refine lv_if_eq hx hb d_M_done_44 rfl (fun _ => ?_) (fun h9 => absurd (by decide) h9)
      refine lv_aload_n hx hb d_M_done_49 rfl (lv_at hl 0 rfl) ?_
      refine va_get (D := (dC, dI)) (ci := 2) (v := .ref (a 8)) (C := R_M) (T := F_M) (N := 11) hx hb hB in_M hown hK hP 0 rfl rfl 8 (by decide) (hB _ bw_363) (fun _ h9 => h9) rfl d_M_done_50 ?_
      refine lv_iload_n hx hb d_M_done_53 rfl (lv_at hl 1 rfl) ?_
      refine lv_iconst (v := bI false) hx hb d_M_done_54 (by decide) ?_
      refine va_zast hx hb hK hP hD hS 8 4 rfl rfl (pk_in j 8 (by omega)) d_M_done_55 (fun H locs hP hD hS => ?_)
      rw [cl_nI (by omega), bI_upd] at hP
      have hP : va_P (dC, dI) vwC (mW k a (0, zC r, zW r, zG r, zP r, zS r, zH r, zR r, va_up (zO r) j false, zD r, zL r)) H := hP
      have hD : va_D A (mW k a (0, zC r, zW r, zG r, zP r, zS r, zH r, zR r, va_up (zO r) j false, zD r, zL r)) := mW_D hDk
      refine lv_aload_n hx hb d_M_done_56 rfl (lv_at hl 0 rfl) ?_
      refine lv_iload_n hx hb d_M_done_57 rfl (lv_at hl 1 rfl) ?_
      refine vp_callSi (va_Run.run (va_runV (As := [.int (nI j)]) (rest := []) ⟨hx, hb, hml, hown, hB⟩ (m_M_isStale l dC dI k a (0, zC r, zW r, zG r, zP r, zS r, zH r, zR r, va_up (zO r) j false, zD r, zL r) j hj) (cwV 1 hB (BIG_V bw_408 bw_409 bw_12 bw_18 bw_410) rfl rfl rfl ⟨rfl, by decide, by decide, by decide +kernel⟩ ⟨Nat.le_of_ble_eq_true rfl, Nat.le_of_ble_eq_true rfl⟩) (mRc_pre _ hP hK) rfl rfl hl.1 rfl (lv_room (Nat.le_of_ble_eq_true rfl)) d_M_done_58 ⟨Nat.zero_le _, Nat.zero_le _⟩)) (fun r7 hr7 => ?_)
      refine W.eq (g2 := F0 m 61 ls [.int (bI (zSt r j 32))]) (by rw [hr7, zSt_cg (r := (0, zC r, zW r, zG r, zP r, zS r, zH r, zR r, va_up (zO r) j false, zD r, zL r)) (r2 := r) rfl rfl rfl]) ?_
      cases hs : zSt r j 32 with
      | true =>
        refine lv_if_eq hx hb d_M_done_61 rfl (fun h9 => absurd h9 (by decide)) (fun _ => ?_)
        refine lv_aload_n hx hb d_M_done_64 rfl (lv_at hl 0 rfl) ?_
        refine lv_dup hx hb d_M_done_65 rfl ?_
        refine va_get (D := (dC, dI)) (ci := 2) (v := .int (zL r)) (C := R_M) (T := F_M) (N := 11) hx hb hB in_M hown hK hP 0 rfl rfl 10 (by decide) (hB _ bw_365) (fun _ h9 => h9) rfl d_M_done_66 ?_
        refine lv_iconst (v := nI 1) hx hb d_M_done_69 (by decide) ?_
        refine lv_iadd hx hb d_M_done_70 ?_
        refine va_put (D := (dC, dI)) (ci := 2) (v := .int ((zL r) + (nI 1))) (ty := .int) (C := R_M) (T := F_M) (N := 11) hx hb hB in_M tf_M ty_M nm_M hown hK hP hD hS 0 rfl rfl 10 (by decide) (hB _ bw_365) (fun _ h9 => h9) rfl (by decide +kernel) rfl rfl (Nat.le_of_ble_eq_true rfl) d_M_done_71 (fun H locs hP hD hS => ?_)
        have hP : va_P (dC, dI) vwC (mW k a (0, zC r, zW r, zG r, zP r, zS r, zH r, zR r, va_up (zO r) j false, zD r, ((zL r) + (nI 1)))) H := hP
        have hD : va_D A (mW k a (0, zC r, zW r, zG r, zP r, zS r, zH r, zR r, va_up (zO r) j false, zD r, ((zL r) + (nI 1)))) := hD
        refine lv_iconst (v := bI false) hx hb d_M_done_74 (by decide) ?_
        exact W.zret (v := bI false) hx hb hr (bI_nar _) (fun t ht hW => ⟨⟨bI false, (0, zC r, zW r, zG r, zP r, zS r, zH r, zR r, va_up (zO r) j false, zD r, ((zL r) + (nI 1))), rfl, ⟨false, rfl, by unfold zDone; rw [hq]; dsimp only; rw [if_neg (by rw [ho]; decide)]; rw [if_pos hs]; first | done | rfl⟩, by show va_P (dC, dI) vwC _ t.heap; rw [ht]; exact hP⟩, hS.F ht⟩) hS.2.2 d_M_done_75
      | false =>
        refine lv_if_eq hx hb d_M_done_61 rfl (fun _ => ?_) (fun h9 => absurd (by decide) h9)
        refine lv_iconst (v := nI 0) hx hb d_M_done_76 (by decide) ?_
        refine lv_istore_n hx hb d_M_done_77 rfl hl (by decide) rfl (fun ls hl => ?_)
        have hl : lv_has ls 3 [(2, .int (nI 0)), (0, .ref (a 0)), (1, .int (nI j))] := hl
        suffices key : ∀ n i (H : Heap) (locs : List Loc) (ls : Array Slot), i ≤ 32 → 32 - i = n → lv_has ls 3 [(2, .int (nI i)), (0, .ref (a 0)), (1, .int (nI j))] → va_P (dC, dI) vwC (mW k a (0, (zDoneN r j i).1, zW r, (zDoneN r j i).2, zP r, zS r, zH r, zR r, va_up (zO r) j false, zD r, zL r)) H → va_S A s.heap H locs → W p l e _ s m _ below meth c H locs 0 0 (MQ below (va_Qi (fun o u => ∃ b8, o = bI b8 ∧ (b8, u) = zDone r (nI j)) (mB dC dI k a) A) _ s 0 0 A) (F0 m 78 ls []) from key _ 0 _ _ ls (by omega) rfl hl hP hS
        clear hS hP hD hl
        intro n
        induction n with
        | zero =>
          intro i H locs ls hi hn hl hP hS
          have hie : i = 32 := by omega
          subst hie
          have hD : va_D A (mW k a (0, (zDoneN r j 32).1, zW r, (zDoneN r j 32).2, zP r, zS r, zH r, zR r, va_up (zO r) j false, zD r, zL r)) := mW_D hDk
          refine lv_iload_n hx hb d_M_done_78 rfl (lv_at hl 0 rfl) ?_
          refine lv_bipush (v := nI 32) hx hb d_M_done_79 (by decide) ?_
          refine lv_icmp_ge hx hb d_M_done_81 rfl (fun _ => ?_) (fun h9 => absurd (nI_le (Nat.le_refl 32) (by omega)) h9)
          refine lv_aload_n hx hb d_M_done_120 rfl (lv_at hl 1 rfl) ?_
          refine lv_dup hx hb d_M_done_121 rfl ?_
          refine va_get (D := (dC, dI)) (ci := 2) (v := .int (zD r)) (C := R_M) (T := F_M) (N := 11) hx hb hB in_M hown hK hP 0 rfl rfl 9 (by decide) (hB _ bw_364) (fun _ h9 => h9) rfl d_M_done_122 ?_
          refine lv_iconst (v := nI 1) hx hb d_M_done_125 (by decide) ?_
          refine lv_iadd hx hb d_M_done_126 ?_
          refine va_put (D := (dC, dI)) (ci := 2) (v := .int ((zD r) + (nI 1))) (ty := .int) (C := R_M) (T := F_M) (N := 11) hx hb hB in_M tf_M ty_M nm_M hown hK hP hD hS 0 rfl rfl 9 (by decide) (hB _ bw_364) (fun _ h9 => h9) rfl (by decide +kernel) rfl rfl (Nat.le_of_ble_eq_true rfl) d_M_done_127 (fun H locs hP hD hS => ?_)
          have hP : va_P (dC, dI) vwC (mW k a (0, (zDoneN r j 32).1, zW r, (zDoneN r j 32).2, zP r, zS r, zH r, zR r, va_up (zO r) j false, ((zD r) + (nI 1)), zL r)) H := hP
          have hD : va_D A (mW k a (0, (zDoneN r j 32).1, zW r, (zDoneN r j 32).2, zP r, zS r, zH r, zR r, va_up (zO r) j false, ((zD r) + (nI 1)), zL r)) := hD
          refine lv_iconst (v := bI true) hx hb d_M_done_130 (by decide) ?_
          exact W.zret (v := bI true) hx hb hr (bI_nar _) (fun t ht hW => ⟨⟨bI true, (0, (zDoneN r j 32).1, zW r, (zDoneN r j 32).2, zP r, zS r, zH r, zR r, va_up (zO r) j false, ((zD r) + (nI 1)), zL r), rfl, ⟨true, rfl, by unfold zDone; rw [hq]; dsimp only; rw [if_neg (by rw [ho]; decide)]; rw [if_neg (by rw [hs]; decide)]; first | done | rfl⟩, by show va_P (dC, dI) vwC _ t.heap; rw [ht]; exact hP⟩, hS.F ht⟩) hS.2.2 d_M_done_131
        | succ n ih =>
          intro i H locs ls hi hn hl hP hS
          have hlt : i < 32 := by omega
          have hD : va_D A (mW k a (0, (zDoneN r j i).1, zW r, (zDoneN r j i).2, zP r, zS r, zH r, zR r, va_up (zO r) j false, zD r, zL r)) := mW_D hDk
          refine lv_iload_n hx hb d_M_done_78 rfl (lv_at hl 0 rfl) ?_
          refine lv_bipush (v := nI 32) hx hb d_M_done_79 (by decide) ?_
          refine lv_icmp_ge hx hb d_M_done_81 rfl (fun h9 => absurd h9 (nI_ge hlt (by omega))) (fun _ => ?_)
          have hat : zAt r j i < 1280 := by unfold zAt; omega
          cases hh : zH r (zAt r j i) with
          | true =>
            have hz : zDoneN r j (i + 1) = (vp_updL (zDoneN r j i).1 i (zW r (zAt r j i)), upd (zDoneN r j i).2 i ((zDoneN r j i).2 i + 1)) := by show (if zH r (zAt r j i) = true then _ else _) = _; rw [if_pos hh]
            refine lv_aload_n hx hb d_M_done_84 rfl (lv_at hl 1 rfl) ?_
            refine va_get (D := (dC, dI)) (ci := 2) (v := .ref (a 6)) (C := R_M) (T := F_M) (N := 11) hx hb hB in_M hown hK hP 0 rfl rfl 6 (by decide) (hB _ bw_361) (fun _ h9 => h9) rfl d_M_done_85 ?_
            refine lv_aload_n hx hb d_M_done_88 rfl (lv_at hl 1 rfl) ?_
            refine lv_iload_n hx hb d_M_done_89 rfl (lv_at hl 2 rfl) ?_
            refine lv_iload_n hx hb d_M_done_90 rfl (lv_at hl 0 rfl) ?_
            refine vp_callSi (va_Run.run (va_runV (As := [.int (nI j), .int (nI i)]) (rest := [.ref (a 6)]) ⟨hx, hb, hml, hown, hB⟩ (m_M_last l dC dI k a (0, (zDoneN r j i).1, zW r, (zDoneN r j i).2, zP r, zS r, zH r, zR r, va_up (zO r) j false, zD r, zL r) j i (by omega) (by omega) hp1 hp5) (cwV 2 hB (BIG_V bw_397 bw_398 bw_11 bw_18 bw_399) rfl rfl rfl ⟨rfl, by decide, by decide, by decide +kernel⟩ ⟨Nat.le_of_ble_eq_true rfl, Nat.le_of_ble_eq_true rfl⟩) (mRc_pre _ hP hK) rfl rfl hl.1 rfl (lv_room (Nat.le_of_ble_eq_true rfl)) d_M_done_91 ⟨Nat.zero_le _, Nat.zero_le _⟩)) (fun r7 hr7 => ?_)
            refine W.eq (g2 := F0 m 94 ls [.int (nI (zAt r j i)), .ref (a 6)]) (by rw [hr7]; rfl) ?_
            refine va_zald hx hb hK hP 6 4 rfl rfl (pk_in (zAt r j i) 1280 (by omega)) d_M_done_94 ?_
            refine W.eq (g2 := F0 m 95 ls [.int (bI (zH r (zAt r j i)))]) (by rw [cl_nI (by omega)]) ?_
            refine W.eq (g2 := F0 m 95 ls [.int (bI true)]) (by rw [hh]) ?_
            refine lv_if_eq hx hb d_M_done_95 rfl (fun h9 => absurd h9 (by decide)) (fun _ => ?_)
            refine lv_aload_n hx hb d_M_done_98 rfl (lv_at hl 1 rfl) ?_
            refine lv_iload_n hx hb d_M_done_99 rfl (lv_at hl 0 rfl) ?_
            refine lv_aload_n hx hb d_M_done_100 rfl (lv_at hl 1 rfl) ?_
            refine va_get (D := (dC, dI)) (ci := 2) (v := .ref (a 2)) (C := R_M) (T := F_M) (N := 11) hx hb hB in_M hown hK hP 0 rfl rfl 2 (by decide) (hB _ bw_357) (fun _ h9 => h9) rfl d_M_done_101 ?_
            refine lv_aload_n hx hb d_M_done_104 rfl (lv_at hl 1 rfl) ?_
            refine lv_iload_n hx hb d_M_done_105 rfl (lv_at hl 2 rfl) ?_
            refine lv_iload_n hx hb d_M_done_106 rfl (lv_at hl 0 rfl) ?_
            refine vp_callSi (va_Run.run (va_runV (As := [.int (nI j), .int (nI i)]) (rest := [.ref (a 2), .int (nI i), .ref (a 0)]) ⟨hx, hb, hml, hown, hB⟩ (m_M_last l dC dI k a (0, (zDoneN r j i).1, zW r, (zDoneN r j i).2, zP r, zS r, zH r, zR r, va_up (zO r) j false, zD r, zL r) j i (by omega) (by omega) hp1 hp5) (cwV 2 hB (BIG_V bw_397 bw_398 bw_11 bw_18 bw_399) rfl rfl rfl ⟨rfl, by decide, by decide, by decide +kernel⟩ ⟨Nat.le_of_ble_eq_true rfl, Nat.le_of_ble_eq_true rfl⟩) (mRc_pre _ hP hK) rfl rfl hl.1 rfl (lv_room (Nat.le_of_ble_eq_true rfl)) d_M_done_107 ⟨Nat.zero_le _, Nat.zero_le _⟩)) (fun r7 hr7 => ?_)
            refine W.eq (g2 := F0 m 110 ls [.int (nI (zAt r j i)), .ref (a 2), .int (nI i), .ref (a 0)]) (by rw [hr7]; rfl) ?_
            refine va_lald hx hb hK hP 2 1 rfl rfl (pk_in (zAt r j i) 1280 (by omega)) d_M_done_110 ?_
            refine W.eq (g2 := F0 m 111 ls [.long (zW r (zAt r j i)), .int (nI i), .ref (a 0)]) (by rw [cl_nI (by omega)]) ?_
            have hFc := va_free (wc := mW k a (0, (zDoneN r j i).1, zW r, (zDoneN r j i).2, zP r, zS r, zH r, zR r, va_up (zO r) j false, zD r, zL r)) hD hS hA [0, 1, 2, 3, 4, 5, 6, 7, 8] rfl
            refine va_callv (va_runV (As := [.int (nI i), .long (zW r (zAt r j i))]) (rest := []) ⟨hx, hb, hml, hown, hB⟩ (m_M_change l dC dI k a _ (0, (zDoneN r j i).1, zW r, (zDoneN r j i).2, zP r, zS r, zH r, zR r, va_up (zO r) j false, zD r, zL r) i (zW r (zAt r j i)) hlt) (cwV 2 hB (BIG_V bw_434 bw_435 bw_14 bw_18 bw_436) rfl rfl rfl ⟨rfl, by decide, by decide, by decide +kernel⟩ ⟨Nat.le_of_ble_eq_true rfl, Nat.le_of_ble_eq_true rfl⟩) (mPc_pre _ hP hK hD) rfl rfl hl.1 rfl (lv_room (Nat.le_of_ble_eq_true rfl)) d_M_done_111 ⟨Nat.zero_le _, Nat.zero_le _⟩) hS (fun q _ h => hFc q h) hFc (fun u t H1 locs ht hvm hw hB1 hz1 hk1 hS => ?_)
            subst hw
            have hP : va_P (dC, dI) vwC (mW k a (zChg (0, (zDoneN r j i).1, zW r, (zDoneN r j i).2, zP r, zS r, zH r, zR r, va_up (zO r) j false, zD r, zL r) i (zW r (zAt r j i)))) H1 := by rw [← ht]; exact hB1
            have hD : va_D A (mW k a (zChg (0, (zDoneN r j i).1, zW r, (zDoneN r j i).2, zP r, zS r, zH r, zR r, va_up (zO r) j false, zD r, zL r) i (zW r (zAt r j i)))) := mW_D hDk
            clear hFc hB1 hk1 hz1 ht hvm
            generalize H1 = H at hP hS ⊢
            refine lv_iinc (k := 0) (v := nI (i + 1)) hx hb d_M_done_114 hl rfl (nI_1 i) (by decide) rfl (fun ls hl => ?_)
            have hl : lv_has ls 3 [(2, .int (nI (i + 1))), (0, .ref (a 0)), (1, .int (nI j))] := hl
            refine lv_goto hx hb d_M_done_117 rfl ?_
            exact ih (i + 1) H _ ls (by omega) (by omega) hl (by rw [hz]; exact hP) hS
          | false =>
            have hz : zDoneN r j (i + 1) = zDoneN r j i := by show (if zH r (zAt r j i) = true then _ else _) = _; rw [if_neg (by rw [hh]; decide)]
            refine lv_aload_n hx hb d_M_done_84 rfl (lv_at hl 1 rfl) ?_
            refine va_get (D := (dC, dI)) (ci := 2) (v := .ref (a 6)) (C := R_M) (T := F_M) (N := 11) hx hb hB in_M hown hK hP 0 rfl rfl 6 (by decide) (hB _ bw_361) (fun _ h9 => h9) rfl d_M_done_85 ?_
            refine lv_aload_n hx hb d_M_done_88 rfl (lv_at hl 1 rfl) ?_
            refine lv_iload_n hx hb d_M_done_89 rfl (lv_at hl 2 rfl) ?_
            refine lv_iload_n hx hb d_M_done_90 rfl (lv_at hl 0 rfl) ?_
            refine vp_callSi (va_Run.run (va_runV (As := [.int (nI j), .int (nI i)]) (rest := [.ref (a 6)]) ⟨hx, hb, hml, hown, hB⟩ (m_M_last l dC dI k a (0, (zDoneN r j i).1, zW r, (zDoneN r j i).2, zP r, zS r, zH r, zR r, va_up (zO r) j false, zD r, zL r) j i (by omega) (by omega) hp1 hp5) (cwV 2 hB (BIG_V bw_397 bw_398 bw_11 bw_18 bw_399) rfl rfl rfl ⟨rfl, by decide, by decide, by decide +kernel⟩ ⟨Nat.le_of_ble_eq_true rfl, Nat.le_of_ble_eq_true rfl⟩) (mRc_pre _ hP hK) rfl rfl hl.1 rfl (lv_room (Nat.le_of_ble_eq_true rfl)) d_M_done_91 ⟨Nat.zero_le _, Nat.zero_le _⟩)) (fun r7 hr7 => ?_)
            refine W.eq (g2 := F0 m 94 ls [.int (nI (zAt r j i)), .ref (a 6)]) (by rw [hr7]; rfl) ?_
            refine va_zald hx hb hK hP 6 4 rfl rfl (pk_in (zAt r j i) 1280 (by omega)) d_M_done_94 ?_
            refine W.eq (g2 := F0 m 95 ls [.int (bI (zH r (zAt r j i)))]) (by rw [cl_nI (by omega)]) ?_
            refine W.eq (g2 := F0 m 95 ls [.int (bI false)]) (by rw [hh]) ?_
            refine lv_if_eq hx hb d_M_done_95 rfl (fun _ => ?_) (fun h9 => absurd (by decide) h9)
            refine lv_iinc (k := 0) (v := nI (i + 1)) hx hb d_M_done_114 hl rfl (nI_1 i) (by decide) rfl (fun ls hl => ?_)
            have hl : lv_has ls 3 [(2, .int (nI (i + 1))), (0, .ref (a 0)), (1, .int (nI j))] := hl
            refine lv_goto hx hb d_M_done_117 rfl ?_
            exact ih (i + 1) H _ ls (by omega) (by omega) hl (by rw [hz]; exact hP) hS
set_option maxHeartbeats 4000000 in
set_option maxRecDepth 100000 in
theorem m_M_count (l : Launch) (dC : Nat → ClassId) (dI : Nat → Nat → Nat) (k : Nat → ClassId) (a : Nat → Nat) (sz : Nat) (r : xRS) (tt ww : Int32) (hok : mOk r) : Met l y_M_count w_M_count (rmx 2 0 0 80) (mPc dC dI k a sz r [.ref (a 0), .int tt, .int ww]) (va_Qi (fun o u => (o, u) = zCount r tt ww) (mB dC dI k a) (va_A (mW k a r) sz)) 0 0 (va_A (mW k a r) sz) := by
  refine Met.ofW (cc := c_M_count) (maxL := 5) (ret := (some .int)) (by decide) rfl ?_
  intro p e s m args below meth c s₁ B hml hv
  obtain ⟨rfl, hsz, hP, hK, hD0⟩ := hv
  have hx := B.exec
  have hb := B.bytes
  have hr := B.returns
  have hts := atoms_spec (ws := w_M_count) B.pre
  have hB : ∀ w ∈ BIG, w.before _ s = true := fun w h => hts w (List.mem_cons_of_mem _ h)
  have hown : s.vm.findClass R_M = some m.cls := findClass_of_methodNamed B.named
  have hlocks := B.notSynchronized
  have hl := lv_entry ([.ref (a 0), .int tt, .int ww]) (n := 5) (Nat.le_of_ble_eq_true rfl)
  rw [lg_entry_eq]
  generalize (lg_sl ([.ref (a 0), .int tt, .int ww]) ++ List.replicate (5 - (lg_sl ([.ref (a 0), .int tt, .int ww])).length) Slot.unset).toArray = ls at hl ⊢
  have hl : lv_has ls 5 [(0, .ref (a 0)), (1, .int tt), (2, .int ww)] := hl
  subst hsz
  have hD := hD0.self (sz := s.heap.size)
  generalize hAe : va_A (mW k a r) s.heap.size = A at hD ⊢
  have hA : ∀ q : Nat, s.heap.size ≤ q → A q := fun q h => by rw [← hAe]; exact Or.inr h
  have hS : va_S A s.heap s.heap [] := va_S.rf
  have hDk := hD
  cases hq : ix 8 tt with
  | none =>
    refine lv_aload_n hx hb d_M_count_0 rfl (lv_at hl 0 rfl) ?_
    refine lv_iconst (v := 0) hx hb d_M_count_1 (by decide) ?_
    refine va_put (D := (dC, dI)) (ci := 2) (v := .int 0) (ty := .int) (C := R_M) (T := F_M) (N := 11) hx hb hB in_M tf_M ty_M nm_M hown hK hP hD hS 0 rfl rfl 0 (by decide) (hB _ bw_355) (fun _ h9 => h9) rfl (by decide +kernel) rfl rfl (Nat.le_of_ble_eq_true rfl) d_M_count_2 (fun H locs hP hD hS => ?_)
    have hP : va_P (dC, dI) vwC (mW k a (0, zC r, zW r, zG r, zP r, zS r, zH r, zR r, zO r, zD r, zL r)) H := hP
    have hD : va_D A (mW k a (0, zC r, zW r, zG r, zP r, zS r, zH r, zR r, zO r, zD r, zL r)) := hD
    refine lv_aload_n hx hb d_M_count_5 rfl (lv_at hl 0 rfl) ?_
    refine lv_iload_n hx hb d_M_count_6 rfl (lv_at hl 1 rfl) ?_
    refine vp_callSi (va_Run.run (va_runS (As := [.int tt]) (rest := [.ref (a 0)]) ⟨hx, hb, hml, hown, hB⟩ (m_M_isOne l tt) (va_cwS 1 hB (BIG_SS bw_387 bw_388 bw_18 bw_389) rfl rfl rfl ⟨by decide, by decide, by decide +kernel⟩ ⟨Nat.le_of_ble_eq_true rfl, Nat.le_of_ble_eq_true rfl⟩) preEq rfl rfl hl.1 rfl (lv_room (Nat.le_of_ble_eq_true rfl)) d_M_count_7 ⟨Nat.zero_le _, Nat.zero_le _⟩)) (fun r7 hr7 => ?_)
    refine W.eq (g2 := F0 m 10 ls [.int (bI false), .ref (a 0)]) (by rw [hr7, hq]; rfl) ?_
    refine lv_if_eq hx hb d_M_count_10 rfl (fun _ => ?_) (fun h9 => absurd (by decide) h9)
    refine lv_iconst (v := bI true) hx hb d_M_count_25 (by decide) ?_
    refine lv_goto hx hb d_M_count_26 rfl ?_
    refine lv_iconst (v := 1) hx hb d_M_count_30 (by decide) ?_
    have hFc := va_free (wc := mW k a (0, zC r, zW r, zG r, zP r, zS r, zH r, zR r, zO r, zD r, zL r)) hD hS hA [0, 1, 2, 3, 4, 5, 6, 7, 8] rfl
    refine va_calli (va_runV (As := [.int (bI true), .int 1]) (rest := []) ⟨hx, hb, hml, hown, hB⟩ (m_M_fails_t l dC dI k a _ (0, zC r, zW r, zG r, zP r, zS r, zH r, zR r, zO r, zD r, zL r) 1 rfl (by decide)) (cwV 2 hB (BIG_V bw_394 bw_395 bw_10 bw_18 bw_396) rfl rfl rfl ⟨rfl, by decide, by decide, by decide +kernel⟩ ⟨Nat.le_of_ble_eq_true rfl, Nat.le_of_ble_eq_true rfl⟩) (mPc_pre _ hP hK hD) rfl rfl hl.1 rfl (lv_room (Nat.le_of_ble_eq_true rfl)) d_M_count_31 ⟨Nat.zero_le _, Nat.zero_le _⟩) hS (fun q _ h => hFc q h) hFc (fun r7 u t H1 locs ht hvm hw hB1 hz1 hk1 hS => ?_)
    obtain ⟨hw1, hw2⟩ := hw
    subst hw1
    subst hw2
    have hP : va_P (dC, dI) vwC (mW k a (zErr (0, zC r, zW r, zG r, zP r, zS r, zH r, zR r, zO r, zD r, zL r) 1)) H1 := by rw [← ht]; exact hB1
    have hD : va_D A (mW k a (zErr (0, zC r, zW r, zG r, zP r, zS r, zH r, zR r, zO r, zD r, zL r) 1)) := mW_D hDk
    clear hFc hB1 hk1 hz1 ht hvm
    generalize H1 = H at hP hS ⊢
    have hP : va_P (dC, dI) vwC (mW k a (1, zC r, zW r, zG r, zP r, zS r, zH r, zR r, zO r, zD r, zL r)) H := hP
    have hD : va_D A (mW k a (1, zC r, zW r, zG r, zP r, zS r, zH r, zR r, zO r, zD r, zL r)) := hD
    refine lv_if_ne hx hb d_M_count_34 rfl (fun _ => ?_) (fun h9 => absurd h9 (by decide))
    refine lv_iconst (v := 0) hx hb d_M_count_59 (by decide) ?_
    exact W.iret (v := 0) hx hb hr (fun t ht hW => ⟨⟨0, (1, zC r, zW r, zG r, zP r, zS r, zH r, zR r, zO r, zD r, zL r), rfl, by unfold zCount; rw [hq]; first | done | rfl, by show va_P (dC, dI) vwC _ t.heap; rw [ht]; exact hP⟩, hS.F ht⟩) hS.2.2 d_M_count_60
  | some j =>
    obtain ⟨hj, htj⟩ := ix_some (by decide) hq
    subst htj
    cases hy : ix 4 ww with
    | none =>
      refine lv_aload_n hx hb d_M_count_0 rfl (lv_at hl 0 rfl) ?_
      refine lv_iconst (v := 0) hx hb d_M_count_1 (by decide) ?_
      refine va_put (D := (dC, dI)) (ci := 2) (v := .int 0) (ty := .int) (C := R_M) (T := F_M) (N := 11) hx hb hB in_M tf_M ty_M nm_M hown hK hP hD hS 0 rfl rfl 0 (by decide) (hB _ bw_355) (fun _ h9 => h9) rfl (by decide +kernel) rfl rfl (Nat.le_of_ble_eq_true rfl) d_M_count_2 (fun H locs hP hD hS => ?_)
      have hP : va_P (dC, dI) vwC (mW k a (0, zC r, zW r, zG r, zP r, zS r, zH r, zR r, zO r, zD r, zL r)) H := hP
      have hD : va_D A (mW k a (0, zC r, zW r, zG r, zP r, zS r, zH r, zR r, zO r, zD r, zL r)) := hD
      refine lv_aload_n hx hb d_M_count_5 rfl (lv_at hl 0 rfl) ?_
      refine lv_iload_n hx hb d_M_count_6 rfl (lv_at hl 1 rfl) ?_
      refine vp_callSi (va_Run.run (va_runS (As := [.int (nI j)]) (rest := [.ref (a 0)]) ⟨hx, hb, hml, hown, hB⟩ (m_M_isOne l (nI j)) (va_cwS 1 hB (BIG_SS bw_387 bw_388 bw_18 bw_389) rfl rfl rfl ⟨by decide, by decide, by decide +kernel⟩ ⟨Nat.le_of_ble_eq_true rfl, Nat.le_of_ble_eq_true rfl⟩) preEq rfl rfl hl.1 rfl (lv_room (Nat.le_of_ble_eq_true rfl)) d_M_count_7 ⟨Nat.zero_le _, Nat.zero_le _⟩)) (fun r7 hr7 => ?_)
      refine W.eq (g2 := F0 m 10 ls [.int (bI true), .ref (a 0)]) (by rw [hr7, hq]; rfl) ?_
      refine lv_if_eq hx hb d_M_count_10 rfl (fun h9 => absurd h9 (by decide)) (fun _ => ?_)
      refine lv_iload_n hx hb d_M_count_13 rfl (lv_at hl 2 rfl) ?_
      refine lv_i2l hx hb d_M_count_14 rfl ?_
      refine lv_lconst (v := 0) hx hb d_M_count_15 (by decide) ?_
      refine lv_ldc2 hx hb hown (hB _ bw_457) d_M_count_16 ?_
      refine vp_callSi (va_Run.run (va_runS (As := [.long ww.toInt64, .long 0, .long 3]) (rest := [.ref (a 0)]) ⟨hx, hb, hml, hown, hB⟩ (m_M_in l ww.toInt64 0 3) (va_cwS 3 hB (BIG_SS bw_391 bw_392 bw_18 bw_393) rfl rfl rfl ⟨by decide, by decide, by decide +kernel⟩ ⟨Nat.le_of_ble_eq_true rfl, Nat.le_of_ble_eq_true rfl⟩) preEq rfl rfl hl.1 rfl (lv_room (Nat.le_of_ble_eq_true rfl)) d_M_count_19 ⟨Nat.zero_le _, Nat.zero_le _⟩)) (fun r7 hr7 => ?_)
      refine W.eq (g2 := F0 m 22 ls [.int (bI false), .ref (a 0)]) (by rw [hr7, in_ix (n := 3) (by decide), hy]; rfl) ?_
      refine lv_if_ne hx hb d_M_count_22 rfl (fun h9 => absurd h9 (by decide)) (fun _ => ?_)
      refine lv_iconst (v := bI true) hx hb d_M_count_25 (by decide) ?_
      refine lv_goto hx hb d_M_count_26 rfl ?_
      refine lv_iconst (v := 1) hx hb d_M_count_30 (by decide) ?_
      have hFc := va_free (wc := mW k a (0, zC r, zW r, zG r, zP r, zS r, zH r, zR r, zO r, zD r, zL r)) hD hS hA [0, 1, 2, 3, 4, 5, 6, 7, 8] rfl
      refine va_calli (va_runV (As := [.int (bI true), .int 1]) (rest := []) ⟨hx, hb, hml, hown, hB⟩ (m_M_fails_t l dC dI k a _ (0, zC r, zW r, zG r, zP r, zS r, zH r, zR r, zO r, zD r, zL r) 1 rfl (by decide)) (cwV 2 hB (BIG_V bw_394 bw_395 bw_10 bw_18 bw_396) rfl rfl rfl ⟨rfl, by decide, by decide, by decide +kernel⟩ ⟨Nat.le_of_ble_eq_true rfl, Nat.le_of_ble_eq_true rfl⟩) (mPc_pre _ hP hK hD) rfl rfl hl.1 rfl (lv_room (Nat.le_of_ble_eq_true rfl)) d_M_count_31 ⟨Nat.zero_le _, Nat.zero_le _⟩) hS (fun q _ h => hFc q h) hFc (fun r7 u t H1 locs ht hvm hw hB1 hz1 hk1 hS => ?_)
      obtain ⟨hw1, hw2⟩ := hw
      subst hw1
      subst hw2
      have hP : va_P (dC, dI) vwC (mW k a (zErr (0, zC r, zW r, zG r, zP r, zS r, zH r, zR r, zO r, zD r, zL r) 1)) H1 := by rw [← ht]; exact hB1
      have hD : va_D A (mW k a (zErr (0, zC r, zW r, zG r, zP r, zS r, zH r, zR r, zO r, zD r, zL r) 1)) := mW_D hDk
      clear hFc hB1 hk1 hz1 ht hvm
      generalize H1 = H at hP hS ⊢
      have hP : va_P (dC, dI) vwC (mW k a (1, zC r, zW r, zG r, zP r, zS r, zH r, zR r, zO r, zD r, zL r)) H := hP
      have hD : va_D A (mW k a (1, zC r, zW r, zG r, zP r, zS r, zH r, zR r, zO r, zD r, zL r)) := hD
      refine lv_if_ne hx hb d_M_count_34 rfl (fun _ => ?_) (fun h9 => absurd h9 (by decide))
      refine lv_iconst (v := 0) hx hb d_M_count_59 (by decide) ?_
      exact W.iret (v := 0) hx hb hr (fun t ht hW => ⟨⟨0, (1, zC r, zW r, zG r, zP r, zS r, zH r, zR r, zO r, zD r, zL r), rfl, by unfold zCount; rw [hq]; dsimp only; rw [hy]; first | done | rfl, by show va_P (dC, dI) vwC _ t.heap; rw [ht]; exact hP⟩, hS.F ht⟩) hS.2.2 d_M_count_60
    | some c8 =>
      obtain ⟨hc8, htc⟩ := ix_some (by decide) hy
      subst htc
      cases ho : zO r j with
      | false =>
        refine lv_aload_n hx hb d_M_count_0 rfl (lv_at hl 0 rfl) ?_
        refine lv_iconst (v := 0) hx hb d_M_count_1 (by decide) ?_
        refine va_put (D := (dC, dI)) (ci := 2) (v := .int 0) (ty := .int) (C := R_M) (T := F_M) (N := 11) hx hb hB in_M tf_M ty_M nm_M hown hK hP hD hS 0 rfl rfl 0 (by decide) (hB _ bw_355) (fun _ h9 => h9) rfl (by decide +kernel) rfl rfl (Nat.le_of_ble_eq_true rfl) d_M_count_2 (fun H locs hP hD hS => ?_)
        have hP : va_P (dC, dI) vwC (mW k a (0, zC r, zW r, zG r, zP r, zS r, zH r, zR r, zO r, zD r, zL r)) H := hP
        have hD : va_D A (mW k a (0, zC r, zW r, zG r, zP r, zS r, zH r, zR r, zO r, zD r, zL r)) := hD
        refine lv_aload_n hx hb d_M_count_5 rfl (lv_at hl 0 rfl) ?_
        refine lv_iload_n hx hb d_M_count_6 rfl (lv_at hl 1 rfl) ?_
        refine vp_callSi (va_Run.run (va_runS (As := [.int (nI j)]) (rest := [.ref (a 0)]) ⟨hx, hb, hml, hown, hB⟩ (m_M_isOne l (nI j)) (va_cwS 1 hB (BIG_SS bw_387 bw_388 bw_18 bw_389) rfl rfl rfl ⟨by decide, by decide, by decide +kernel⟩ ⟨Nat.le_of_ble_eq_true rfl, Nat.le_of_ble_eq_true rfl⟩) preEq rfl rfl hl.1 rfl (lv_room (Nat.le_of_ble_eq_true rfl)) d_M_count_7 ⟨Nat.zero_le _, Nat.zero_le _⟩)) (fun r7 hr7 => ?_)
        refine W.eq (g2 := F0 m 10 ls [.int (bI true), .ref (a 0)]) (by rw [hr7, hq]; rfl) ?_
        refine lv_if_eq hx hb d_M_count_10 rfl (fun h9 => absurd h9 (by decide)) (fun _ => ?_)
        refine lv_iload_n hx hb d_M_count_13 rfl (lv_at hl 2 rfl) ?_
        refine lv_i2l hx hb d_M_count_14 rfl ?_
        refine lv_lconst (v := 0) hx hb d_M_count_15 (by decide) ?_
        refine lv_ldc2 hx hb hown (hB _ bw_457) d_M_count_16 ?_
        refine vp_callSi (va_Run.run (va_runS (As := [.long ((nI c8).toInt64), .long 0, .long 3]) (rest := [.ref (a 0)]) ⟨hx, hb, hml, hown, hB⟩ (m_M_in l (nI c8).toInt64 0 3) (va_cwS 3 hB (BIG_SS bw_391 bw_392 bw_18 bw_393) rfl rfl rfl ⟨by decide, by decide, by decide +kernel⟩ ⟨Nat.le_of_ble_eq_true rfl, Nat.le_of_ble_eq_true rfl⟩) preEq rfl rfl hl.1 rfl (lv_room (Nat.le_of_ble_eq_true rfl)) d_M_count_19 ⟨Nat.zero_le _, Nat.zero_le _⟩)) (fun r7 hr7 => ?_)
        refine W.eq (g2 := F0 m 22 ls [.int (bI true), .ref (a 0)]) (by rw [hr7, in_ix (n := 3) (by decide), hy]; rfl) ?_
        refine lv_if_ne hx hb d_M_count_22 rfl (fun _ => ?_) (fun h9 => absurd h9 (by decide))
        refine lv_iconst (v := bI false) hx hb d_M_count_29 (by decide) ?_
        refine lv_iconst (v := 1) hx hb d_M_count_30 (by decide) ?_
        have hFc := va_free (wc := mW k a (0, zC r, zW r, zG r, zP r, zS r, zH r, zR r, zO r, zD r, zL r)) hD hS hA [0, 1, 2, 3, 4, 5, 6, 7, 8] rfl
        refine va_calli (va_runV (As := [.int (bI false), .int 1]) (rest := []) ⟨hx, hb, hml, hown, hB⟩ (m_M_fails_f l dC dI k a _ (0, zC r, zW r, zG r, zP r, zS r, zH r, zR r, zO r, zD r, zL r) 1 rfl) (cwV 2 hB (BIG_V bw_394 bw_395 bw_10 bw_18 bw_396) rfl rfl rfl ⟨rfl, by decide, by decide, by decide +kernel⟩ ⟨Nat.le_of_ble_eq_true rfl, Nat.le_of_ble_eq_true rfl⟩) (mPc_pre _ hP hK hD) rfl rfl hl.1 rfl (lv_room (Nat.le_of_ble_eq_true rfl)) d_M_count_31 ⟨Nat.zero_le _, Nat.zero_le _⟩) hS (fun q _ h => hFc q h) hFc (fun r7 u t H1 locs ht hvm hw hB1 hz1 hk1 hS => ?_)
        obtain ⟨hw1, hw2⟩ := hw
        subst hw1
        subst hw2
        have hP : va_P (dC, dI) vwC (mW k a (0, zC r, zW r, zG r, zP r, zS r, zH r, zR r, zO r, zD r, zL r)) H1 := by rw [← ht]; exact hB1
        have hD : va_D A (mW k a (0, zC r, zW r, zG r, zP r, zS r, zH r, zR r, zO r, zD r, zL r)) := mW_D hDk
        clear hFc hB1 hk1 hz1 ht hvm
        generalize H1 = H at hP hS ⊢
        refine lv_if_ne hx hb d_M_count_34 rfl (fun h9 => absurd h9 (by decide)) (fun _ => ?_)
        refine lv_aload_n hx hb d_M_count_37 rfl (lv_at hl 0 rfl) ?_
        refine lv_aload_n hx hb d_M_count_38 rfl (lv_at hl 0 rfl) ?_
        refine va_get (D := (dC, dI)) (ci := 2) (v := .ref (a 8)) (C := R_M) (T := F_M) (N := 11) hx hb hB in_M hown hK hP 0 rfl rfl 8 (by decide) (hB _ bw_363) (fun _ h9 => h9) rfl d_M_count_39 ?_
        refine lv_iload_n hx hb d_M_count_42 rfl (lv_at hl 1 rfl) ?_
        refine va_zald hx hb hK hP 8 4 rfl rfl (pk_in j 8 (by omega)) d_M_count_43 ?_
        refine W.eq (g2 := F0 m 44 ls [.int (bI (zO r j)), .ref (a 0)]) (by rw [cl_nI (by omega)]) ?_
        refine W.eq (g2 := F0 m 44 ls [.int (bI false), .ref (a 0)]) (by rw [ho]) ?_
        refine lv_if_ne hx hb d_M_count_44 rfl (fun h9 => absurd h9 (by decide)) (fun _ => ?_)
        refine lv_iconst (v := bI true) hx hb d_M_count_47 (by decide) ?_
        refine lv_goto hx hb d_M_count_48 rfl ?_
        refine lv_iconst (v := 2) hx hb d_M_count_52 (by decide) ?_
        have hFc := va_free (wc := mW k a (0, zC r, zW r, zG r, zP r, zS r, zH r, zR r, zO r, zD r, zL r)) hD hS hA [0, 1, 2, 3, 4, 5, 6, 7, 8] rfl
        refine va_calli (va_runV (As := [.int (bI true), .int 2]) (rest := []) ⟨hx, hb, hml, hown, hB⟩ (m_M_fails_t l dC dI k a _ (0, zC r, zW r, zG r, zP r, zS r, zH r, zR r, zO r, zD r, zL r) 2 rfl (by decide)) (cwV 2 hB (BIG_V bw_394 bw_395 bw_10 bw_18 bw_396) rfl rfl rfl ⟨rfl, by decide, by decide, by decide +kernel⟩ ⟨Nat.le_of_ble_eq_true rfl, Nat.le_of_ble_eq_true rfl⟩) (mPc_pre _ hP hK hD) rfl rfl hl.1 rfl (lv_room (Nat.le_of_ble_eq_true rfl)) d_M_count_53 ⟨Nat.zero_le _, Nat.zero_le _⟩) hS (fun q _ h => hFc q h) hFc (fun r7 u t H1 locs ht hvm hw hB1 hz1 hk1 hS => ?_)
        obtain ⟨hw1, hw2⟩ := hw
        subst hw1
        subst hw2
        have hP : va_P (dC, dI) vwC (mW k a (zErr (0, zC r, zW r, zG r, zP r, zS r, zH r, zR r, zO r, zD r, zL r) 2)) H1 := by rw [← ht]; exact hB1
        have hD : va_D A (mW k a (zErr (0, zC r, zW r, zG r, zP r, zS r, zH r, zR r, zO r, zD r, zL r) 2)) := mW_D hDk
        clear hFc hB1 hk1 hz1 ht hvm
        generalize H1 = H at hP hS ⊢
        have hP : va_P (dC, dI) vwC (mW k a (2, zC r, zW r, zG r, zP r, zS r, zH r, zR r, zO r, zD r, zL r)) H := hP
        have hD : va_D A (mW k a (2, zC r, zW r, zG r, zP r, zS r, zH r, zR r, zO r, zD r, zL r)) := hD
        refine lv_if_eq hx hb d_M_count_56 rfl (fun h9 => absurd h9 (by decide)) (fun _ => ?_)
        refine lv_iconst (v := 0) hx hb d_M_count_59 (by decide) ?_
        exact W.iret (v := 0) hx hb hr (fun t ht hW => ⟨⟨0, (2, zC r, zW r, zG r, zP r, zS r, zH r, zR r, zO r, zD r, zL r), rfl, by unfold zCount; rw [hq]; dsimp only; rw [hy]; dsimp only; rw [if_pos ho]; first | done | rfl, by show va_P (dC, dI) vwC _ t.heap; rw [ht]; exact hP⟩, hS.F ht⟩) hS.2.2 d_M_count_60
      | true =>
        obtain ⟨hp1, hp5⟩ := hok j hj ho
        refine lv_aload_n hx hb d_M_count_0 rfl (lv_at hl 0 rfl) ?_
        refine lv_iconst (v := 0) hx hb d_M_count_1 (by decide) ?_
        refine va_put (D := (dC, dI)) (ci := 2) (v := .int 0) (ty := .int) (C := R_M) (T := F_M) (N := 11) hx hb hB in_M tf_M ty_M nm_M hown hK hP hD hS 0 rfl rfl 0 (by decide) (hB _ bw_355) (fun _ h9 => h9) rfl (by decide +kernel) rfl rfl (Nat.le_of_ble_eq_true rfl) d_M_count_2 (fun H locs hP hD hS => ?_)
        have hP : va_P (dC, dI) vwC (mW k a (0, zC r, zW r, zG r, zP r, zS r, zH r, zR r, zO r, zD r, zL r)) H := hP
        have hD : va_D A (mW k a (0, zC r, zW r, zG r, zP r, zS r, zH r, zR r, zO r, zD r, zL r)) := hD
        refine lv_aload_n hx hb d_M_count_5 rfl (lv_at hl 0 rfl) ?_
        refine lv_iload_n hx hb d_M_count_6 rfl (lv_at hl 1 rfl) ?_
        refine vp_callSi (va_Run.run (va_runS (As := [.int (nI j)]) (rest := [.ref (a 0)]) ⟨hx, hb, hml, hown, hB⟩ (m_M_isOne l (nI j)) (va_cwS 1 hB (BIG_SS bw_387 bw_388 bw_18 bw_389) rfl rfl rfl ⟨by decide, by decide, by decide +kernel⟩ ⟨Nat.le_of_ble_eq_true rfl, Nat.le_of_ble_eq_true rfl⟩) preEq rfl rfl hl.1 rfl (lv_room (Nat.le_of_ble_eq_true rfl)) d_M_count_7 ⟨Nat.zero_le _, Nat.zero_le _⟩)) (fun r7 hr7 => ?_)
        refine W.eq (g2 := F0 m 10 ls [.int (bI true), .ref (a 0)]) (by rw [hr7, hq]; rfl) ?_
        refine lv_if_eq hx hb d_M_count_10 rfl (fun h9 => absurd h9 (by decide)) (fun _ => ?_)
        refine lv_iload_n hx hb d_M_count_13 rfl (lv_at hl 2 rfl) ?_
        refine lv_i2l hx hb d_M_count_14 rfl ?_
        refine lv_lconst (v := 0) hx hb d_M_count_15 (by decide) ?_
        refine lv_ldc2 hx hb hown (hB _ bw_457) d_M_count_16 ?_
        refine vp_callSi (va_Run.run (va_runS (As := [.long ((nI c8).toInt64), .long 0, .long 3]) (rest := [.ref (a 0)]) ⟨hx, hb, hml, hown, hB⟩ (m_M_in l (nI c8).toInt64 0 3) (va_cwS 3 hB (BIG_SS bw_391 bw_392 bw_18 bw_393) rfl rfl rfl ⟨by decide, by decide, by decide +kernel⟩ ⟨Nat.le_of_ble_eq_true rfl, Nat.le_of_ble_eq_true rfl⟩) preEq rfl rfl hl.1 rfl (lv_room (Nat.le_of_ble_eq_true rfl)) d_M_count_19 ⟨Nat.zero_le _, Nat.zero_le _⟩)) (fun r7 hr7 => ?_)
        refine W.eq (g2 := F0 m 22 ls [.int (bI true), .ref (a 0)]) (by rw [hr7, in_ix (n := 3) (by decide), hy]; rfl) ?_
        refine lv_if_ne hx hb d_M_count_22 rfl (fun _ => ?_) (fun h9 => absurd h9 (by decide))
        refine lv_iconst (v := bI false) hx hb d_M_count_29 (by decide) ?_
        refine lv_iconst (v := 1) hx hb d_M_count_30 (by decide) ?_
        have hFc := va_free (wc := mW k a (0, zC r, zW r, zG r, zP r, zS r, zH r, zR r, zO r, zD r, zL r)) hD hS hA [0, 1, 2, 3, 4, 5, 6, 7, 8] rfl
        refine va_calli (va_runV (As := [.int (bI false), .int 1]) (rest := []) ⟨hx, hb, hml, hown, hB⟩ (m_M_fails_f l dC dI k a _ (0, zC r, zW r, zG r, zP r, zS r, zH r, zR r, zO r, zD r, zL r) 1 rfl) (cwV 2 hB (BIG_V bw_394 bw_395 bw_10 bw_18 bw_396) rfl rfl rfl ⟨rfl, by decide, by decide, by decide +kernel⟩ ⟨Nat.le_of_ble_eq_true rfl, Nat.le_of_ble_eq_true rfl⟩) (mPc_pre _ hP hK hD) rfl rfl hl.1 rfl (lv_room (Nat.le_of_ble_eq_true rfl)) d_M_count_31 ⟨Nat.zero_le _, Nat.zero_le _⟩) hS (fun q _ h => hFc q h) hFc (fun r7 u t H1 locs ht hvm hw hB1 hz1 hk1 hS => ?_)
        obtain ⟨hw1, hw2⟩ := hw
        subst hw1
        subst hw2
        have hP : va_P (dC, dI) vwC (mW k a (0, zC r, zW r, zG r, zP r, zS r, zH r, zR r, zO r, zD r, zL r)) H1 := by rw [← ht]; exact hB1
        have hD : va_D A (mW k a (0, zC r, zW r, zG r, zP r, zS r, zH r, zR r, zO r, zD r, zL r)) := mW_D hDk
        clear hFc hB1 hk1 hz1 ht hvm
        generalize H1 = H at hP hS ⊢
        refine lv_if_ne hx hb d_M_count_34 rfl (fun h9 => absurd h9 (by decide)) (fun _ => ?_)
        refine lv_aload_n hx hb d_M_count_37 rfl (lv_at hl 0 rfl) ?_
        refine lv_aload_n hx hb d_M_count_38 rfl (lv_at hl 0 rfl) ?_
        refine va_get (D := (dC, dI)) (ci := 2) (v := .ref (a 8)) (C := R_M) (T := F_M) (N := 11) hx hb hB in_M hown hK hP 0 rfl rfl 8 (by decide) (hB _ bw_363) (fun _ h9 => h9) rfl d_M_count_39 ?_
        refine lv_iload_n hx hb d_M_count_42 rfl (lv_at hl 1 rfl) ?_
        refine va_zald hx hb hK hP 8 4 rfl rfl (pk_in j 8 (by omega)) d_M_count_43 ?_
        refine W.eq (g2 := F0 m 44 ls [.int (bI (zO r j)), .ref (a 0)]) (by rw [cl_nI (by omega)]) ?_
        refine W.eq (g2 := F0 m 44 ls [.int (bI true), .ref (a 0)]) (by rw [ho]) ?_
        refine lv_if_ne hx hb d_M_count_44 rfl (fun _ => ?_) (fun h9 => absurd h9 (by decide))
        refine lv_iconst (v := bI false) hx hb d_M_count_51 (by decide) ?_
        refine lv_iconst (v := 2) hx hb d_M_count_52 (by decide) ?_
        have hFc := va_free (wc := mW k a (0, zC r, zW r, zG r, zP r, zS r, zH r, zR r, zO r, zD r, zL r)) hD hS hA [0, 1, 2, 3, 4, 5, 6, 7, 8] rfl
        refine va_calli (va_runV (As := [.int (bI false), .int 2]) (rest := []) ⟨hx, hb, hml, hown, hB⟩ (m_M_fails_f l dC dI k a _ (0, zC r, zW r, zG r, zP r, zS r, zH r, zR r, zO r, zD r, zL r) 2 rfl) (cwV 2 hB (BIG_V bw_394 bw_395 bw_10 bw_18 bw_396) rfl rfl rfl ⟨rfl, by decide, by decide, by decide +kernel⟩ ⟨Nat.le_of_ble_eq_true rfl, Nat.le_of_ble_eq_true rfl⟩) (mPc_pre _ hP hK hD) rfl rfl hl.1 rfl (lv_room (Nat.le_of_ble_eq_true rfl)) d_M_count_53 ⟨Nat.zero_le _, Nat.zero_le _⟩) hS (fun q _ h => hFc q h) hFc (fun r7 u t H1 locs ht hvm hw hB1 hz1 hk1 hS => ?_)
        obtain ⟨hw1, hw2⟩ := hw
        subst hw1
        subst hw2
        have hP : va_P (dC, dI) vwC (mW k a (0, zC r, zW r, zG r, zP r, zS r, zH r, zR r, zO r, zD r, zL r)) H1 := by rw [← ht]; exact hB1
        have hD : va_D A (mW k a (0, zC r, zW r, zG r, zP r, zS r, zH r, zR r, zO r, zD r, zL r)) := mW_D hDk
        clear hFc hB1 hk1 hz1 ht hvm
        generalize H1 = H at hP hS ⊢
        refine lv_if_eq hx hb d_M_count_56 rfl (fun _ => ?_) (fun h9 => absurd (by decide) h9)
        refine lv_iconst (v := nI 0) hx hb d_M_count_61 (by decide) ?_
        refine lv_istore_n hx hb d_M_count_62 rfl hl (by decide) rfl (fun ls hl => ?_)
        have hl : lv_has ls 5 [(3, .int (nI 0)), (0, .ref (a 0)), (1, .int (nI j)), (2, .int (nI c8))] := hl
        refine lv_iconst (v := nI 0) hx hb d_M_count_63 (by decide) ?_
        refine lv_istore hx hb d_M_count_64 hl (by decide) rfl (fun ls hl => ?_)
        have hl : lv_has ls 5 [(4, .int (nI 0)), (3, .int (nI 0)), (0, .ref (a 0)), (1, .int (nI j)), (2, .int (nI c8))] := hl
        have h4 : c8 = 0 ∨ c8 = 1 ∨ c8 = 2 ∨ c8 = 3 := by omega
        rcases h4 with h4 | h4 | h4 | h4
        · subst h4
          suffices key : ∀ n i (H : Heap) (locs : List Loc) (ls : Array Slot), i ≤ 32 → 32 - i = n → lv_has ls 5 [(4, .int (nI i)), (3, .int (nI (zCntR r j i))), (0, .ref (a 0)), (1, .int (nI j)), (2, .int (nI 0))] → va_P (dC, dI) vwC (mW k a (0, zC r, zW r, zG r, zP r, zS r, zH r, zR r, zO r, zD r, zL r)) H → va_S A s.heap H locs → W p l e _ s m _ below meth c H locs 0 0 (MQ below (va_Qi (fun o u => (o, u) = zCount r (nI j) (nI 0)) (mB dC dI k a) A) _ s 0 0 A) (F0 m 66 ls []) from key _ 0 _ _ ls (by omega) rfl hl hP hS
          clear hS hP hD hl
          intro n
          induction n with
          | zero =>
            intro i H locs ls hi hn hl hP hS
            have hie : i = 32 := by omega
            subst hie
            have hD : va_D A (mW k a (0, zC r, zW r, zG r, zP r, zS r, zH r, zR r, zO r, zD r, zL r)) := mW_D hDk
            refine lv_iload hx hb d_M_count_66 (lv_at hl 0 rfl) ?_
            refine lv_bipush (v := nI 32) hx hb d_M_count_68 (by decide) ?_
            refine lv_icmp_ge hx hb d_M_count_70 rfl (fun _ => ?_) (fun h9 => absurd (nI_le (Nat.le_refl 32) (by omega)) h9)
            refine lv_iload_n hx hb d_M_count_124 rfl (lv_at hl 4 rfl) ?_
            refine lv_iconst (v := nI 2) hx hb d_M_count_125 (by decide) ?_
            refine lv_icmp_ge hx hb d_M_count_126 rfl (fun h9 => absurd h9 (by decide)) (fun _ => ?_)
            refine lv_iload_n hx hb d_M_count_129 rfl (lv_at hl 1 rfl) ?_
            refine lv_goto hx hb d_M_count_130 rfl ?_
            exact W.iret (v := nI (zCntR r j 32)) hx hb hr (fun t ht hW => ⟨⟨nI (zCntR r j 32), (0, zC r, zW r, zG r, zP r, zS r, zH r, zR r, zO r, zD r, zL r), rfl, by unfold zCount; rw [hq]; dsimp only; rw [hy]; dsimp only; rw [if_neg (by rw [ho]; decide)]; first | done | rfl, by show va_P (dC, dI) vwC _ t.heap; rw [ht]; exact hP⟩, hS.F ht⟩) hS.2.2 d_M_count_160
          | succ n ih =>
            intro i H locs ls hi hn hl hP hS
            have hlt : i < 32 := by omega
            have hD : va_D A (mW k a (0, zC r, zW r, zG r, zP r, zS r, zH r, zR r, zO r, zD r, zL r)) := mW_D hDk
            refine lv_iload hx hb d_M_count_66 (lv_at hl 0 rfl) ?_
            refine lv_bipush (v := nI 32) hx hb d_M_count_68 (by decide) ?_
            refine lv_icmp_ge hx hb d_M_count_70 rfl (fun h9 => absurd h9 (nI_ge hlt (by omega))) (fun _ => ?_)
            cases hh : zR r (32 * j + i) with
            | true =>
              have hz : zCntR r j (i + 1) = zCntR r j i + 1 := by show zCntR r j i + (if zR r (32 * j + i) = true then 1 else 0) = _; rw [if_pos hh]
              refine lv_iload_n hx hb d_M_count_73 rfl (lv_at hl 4 rfl) ?_
              refine lv_if_ne hx hb d_M_count_74 rfl (fun h9 => absurd h9 (fun q => q rfl)) (fun _ => ?_)
              refine lv_aload_n hx hb d_M_count_77 rfl (lv_at hl 2 rfl) ?_
              refine va_get (D := (dC, dI)) (ci := 2) (v := .ref (a 7)) (C := R_M) (T := F_M) (N := 11) hx hb hB in_M hown hK hP 0 rfl rfl 7 (by decide) (hB _ bw_362) (fun _ h9 => h9) rfl d_M_count_78 ?_
              refine lv_bipush (v := nI 32) hx hb d_M_count_81 (by decide) ?_
              refine lv_iload_n hx hb d_M_count_83 rfl (lv_at hl 3 rfl) ?_
              refine lv_imul hx hb d_M_count_84 ?_
              refine W.eq (g2 := F0 m 85 ls [.int (nI (32 * j)), .ref (a 7)]) (by rw [pk_mul]) ?_
              refine lv_iload hx hb d_M_count_85 (lv_at hl 0 rfl) ?_
              refine lv_iadd hx hb d_M_count_87 ?_
              refine W.eq (g2 := F0 m 88 ls [.int (nI ((32 * j) + i)), .ref (a 7)]) (by rw [nI_add]) ?_
              refine va_zald hx hb hK hP 7 4 rfl rfl (pk_in ((32 * j) + i) 256 (by omega)) d_M_count_88 ?_
              refine W.eq (g2 := F0 m 89 ls [.int (bI (zR r ((32 * j) + i)))]) (by rw [cl_nI (by omega)]) ?_
              refine W.eq (g2 := F0 m 89 ls [.int (bI true)]) (by rw [hh]) ?_
              refine lv_if_eq hx hb d_M_count_89 rfl (fun h9 => absurd h9 (by decide)) (fun _ => ?_)
              refine lv_goto hx hb d_M_count_92 rfl ?_
              refine lv_iinc (k := 1) (v := nI (zCntR r j i + 1)) hx hb d_M_count_115 hl rfl (nI_1 _) (by decide) rfl (fun ls hl => ?_)
              have hl : lv_has ls 5 [(3, .int (nI (zCntR r j i + 1))), (4, .int (nI i)), (0, .ref (a 0)), (1, .int (nI j)), (2, .int (nI 0))] := hl
              refine lv_iinc (k := 1) (v := nI (i + 1)) hx hb d_M_count_118 hl rfl (nI_1 i) (by decide) rfl (fun ls hl => ?_)
              have hl : lv_has ls 5 [(4, .int (nI (i + 1))), (3, .int (nI (zCntR r j i + 1))), (0, .ref (a 0)), (1, .int (nI j)), (2, .int (nI 0))] := hl
              refine lv_goto hx hb d_M_count_121 rfl ?_
              exact ih (i + 1) H _ ls (by omega) (by omega) (by rw [hz]; exact hl) hP hS
            | false =>
              have hz : zCntR r j (i + 1) = zCntR r j i + 0 := by show zCntR r j i + (if zR r (32 * j + i) = true then 1 else 0) = _; rw [if_neg (by rw [hh]; decide)]
              refine lv_iload_n hx hb d_M_count_73 rfl (lv_at hl 4 rfl) ?_
              refine lv_if_ne hx hb d_M_count_74 rfl (fun h9 => absurd h9 (fun q => q rfl)) (fun _ => ?_)
              refine lv_aload_n hx hb d_M_count_77 rfl (lv_at hl 2 rfl) ?_
              refine va_get (D := (dC, dI)) (ci := 2) (v := .ref (a 7)) (C := R_M) (T := F_M) (N := 11) hx hb hB in_M hown hK hP 0 rfl rfl 7 (by decide) (hB _ bw_362) (fun _ h9 => h9) rfl d_M_count_78 ?_
              refine lv_bipush (v := nI 32) hx hb d_M_count_81 (by decide) ?_
              refine lv_iload_n hx hb d_M_count_83 rfl (lv_at hl 3 rfl) ?_
              refine lv_imul hx hb d_M_count_84 ?_
              refine W.eq (g2 := F0 m 85 ls [.int (nI (32 * j)), .ref (a 7)]) (by rw [pk_mul]) ?_
              refine lv_iload hx hb d_M_count_85 (lv_at hl 0 rfl) ?_
              refine lv_iadd hx hb d_M_count_87 ?_
              refine W.eq (g2 := F0 m 88 ls [.int (nI ((32 * j) + i)), .ref (a 7)]) (by rw [nI_add]) ?_
              refine va_zald hx hb hK hP 7 4 rfl rfl (pk_in ((32 * j) + i) 256 (by omega)) d_M_count_88 ?_
              refine W.eq (g2 := F0 m 89 ls [.int (bI (zR r ((32 * j) + i)))]) (by rw [cl_nI (by omega)]) ?_
              refine W.eq (g2 := F0 m 89 ls [.int (bI false)]) (by rw [hh]) ?_
              refine lv_if_eq hx hb d_M_count_89 rfl (fun _ => ?_) (fun h9 => absurd (by decide) h9)
              refine lv_iinc (k := 0) (v := nI (i + 1)) hx hb d_M_count_118 hl rfl (nI_1 i) (by decide) rfl (fun ls hl => ?_)
              have hl : lv_has ls 5 [(4, .int (nI (i + 1))), (3, .int (nI (zCntR r j i))), (0, .ref (a 0)), (1, .int (nI j)), (2, .int (nI 0))] := hl
              refine lv_goto hx hb d_M_count_121 rfl ?_
              exact ih (i + 1) H _ ls (by omega) (by omega) (by rw [hz]; exact hl) hP hS
        · subst h4
          suffices key : ∀ n i (H : Heap) (locs : List Loc) (ls : Array Slot), i ≤ 32 → 32 - i = n → lv_has ls 5 [(4, .int (nI i)), (3, .int (nI (zCntH r j i))), (0, .ref (a 0)), (1, .int (nI j)), (2, .int (nI 1))] → va_P (dC, dI) vwC (mW k a (0, zC r, zW r, zG r, zP r, zS r, zH r, zR r, zO r, zD r, zL r)) H → va_S A s.heap H locs → W p l e _ s m _ below meth c H locs 0 0 (MQ below (va_Qi (fun o u => (o, u) = zCount r (nI j) (nI 1)) (mB dC dI k a) A) _ s 0 0 A) (F0 m 66 ls []) from key _ 0 _ _ ls (by omega) rfl hl hP hS
          clear hS hP hD hl
          intro n
          induction n with
          | zero =>
            intro i H locs ls hi hn hl hP hS
            have hie : i = 32 := by omega
            subst hie
            have hD : va_D A (mW k a (0, zC r, zW r, zG r, zP r, zS r, zH r, zR r, zO r, zD r, zL r)) := mW_D hDk
            refine lv_iload hx hb d_M_count_66 (lv_at hl 0 rfl) ?_
            refine lv_bipush (v := nI 32) hx hb d_M_count_68 (by decide) ?_
            refine lv_icmp_ge hx hb d_M_count_70 rfl (fun _ => ?_) (fun h9 => absurd (nI_le (Nat.le_refl 32) (by omega)) h9)
            refine lv_iload_n hx hb d_M_count_124 rfl (lv_at hl 4 rfl) ?_
            refine lv_iconst (v := nI 2) hx hb d_M_count_125 (by decide) ?_
            refine lv_icmp_ge hx hb d_M_count_126 rfl (fun h9 => absurd h9 (by decide)) (fun _ => ?_)
            refine lv_iload_n hx hb d_M_count_129 rfl (lv_at hl 1 rfl) ?_
            refine lv_goto hx hb d_M_count_130 rfl ?_
            exact W.iret (v := nI (zCntH r j 32)) hx hb hr (fun t ht hW => ⟨⟨nI (zCntH r j 32), (0, zC r, zW r, zG r, zP r, zS r, zH r, zR r, zO r, zD r, zL r), rfl, by unfold zCount; rw [hq]; dsimp only; rw [hy]; dsimp only; rw [if_neg (by rw [ho]; decide)]; first | done | rfl, by show va_P (dC, dI) vwC _ t.heap; rw [ht]; exact hP⟩, hS.F ht⟩) hS.2.2 d_M_count_160
          | succ n ih =>
            intro i H locs ls hi hn hl hP hS
            have hlt : i < 32 := by omega
            have hD : va_D A (mW k a (0, zC r, zW r, zG r, zP r, zS r, zH r, zR r, zO r, zD r, zL r)) := mW_D hDk
            refine lv_iload hx hb d_M_count_66 (lv_at hl 0 rfl) ?_
            refine lv_bipush (v := nI 32) hx hb d_M_count_68 (by decide) ?_
            refine lv_icmp_ge hx hb d_M_count_70 rfl (fun h9 => absurd h9 (nI_ge hlt (by omega))) (fun _ => ?_)
            refine lv_iload_n hx hb d_M_count_73 rfl (lv_at hl 4 rfl) ?_
            refine lv_if_ne hx hb d_M_count_74 rfl (fun _ => ?_) (fun h9 => absurd h9 (by decide))
            refine lv_iload_n hx hb d_M_count_95 rfl (lv_at hl 4 rfl) ?_
            refine lv_iconst (v := nI 1) hx hb d_M_count_96 (by decide) ?_
            refine lv_icmp_ne hx hb d_M_count_97 rfl (fun h9 => absurd h9 (fun q => q rfl)) (fun _ => ?_)
            have hat : zAt r j i < 1280 := by unfold zAt; omega
            cases hh : zH r (zAt r j i) with
            | true =>
              have hz : zCntH r j (i + 1) = zCntH r j i + 1 := by show zCntH r j i + (if zH r (zAt r j i) = true then 1 else 0) = _; rw [if_pos hh]
              refine lv_aload_n hx hb d_M_count_100 rfl (lv_at hl 2 rfl) ?_
              refine va_get (D := (dC, dI)) (ci := 2) (v := .ref (a 6)) (C := R_M) (T := F_M) (N := 11) hx hb hB in_M hown hK hP 0 rfl rfl 6 (by decide) (hB _ bw_361) (fun _ h9 => h9) rfl d_M_count_101 ?_
              refine lv_aload_n hx hb d_M_count_104 rfl (lv_at hl 2 rfl) ?_
              refine lv_iload_n hx hb d_M_count_105 rfl (lv_at hl 3 rfl) ?_
              refine lv_iload hx hb d_M_count_106 (lv_at hl 0 rfl) ?_
              refine vp_callSi (va_Run.run (va_runV (As := [.int (nI j), .int (nI i)]) (rest := [.ref (a 6)]) ⟨hx, hb, hml, hown, hB⟩ (m_M_last l dC dI k a (0, zC r, zW r, zG r, zP r, zS r, zH r, zR r, zO r, zD r, zL r) j i (by omega) (by omega) hp1 hp5) (cwV 2 hB (BIG_V bw_397 bw_398 bw_11 bw_18 bw_399) rfl rfl rfl ⟨rfl, by decide, by decide, by decide +kernel⟩ ⟨Nat.le_of_ble_eq_true rfl, Nat.le_of_ble_eq_true rfl⟩) (mRc_pre _ hP hK) rfl rfl hl.1 rfl (lv_room (Nat.le_of_ble_eq_true rfl)) d_M_count_108 ⟨Nat.zero_le _, Nat.zero_le _⟩)) (fun r7 hr7 => ?_)
              refine W.eq (g2 := F0 m 111 ls [.int (nI (zAt r j i)), .ref (a 6)]) (by rw [hr7]; rfl) ?_
              refine va_zald hx hb hK hP 6 4 rfl rfl (pk_in (zAt r j i) 1280 (by omega)) d_M_count_111 ?_
              refine W.eq (g2 := F0 m 112 ls [.int (bI (zH r (zAt r j i)))]) (by rw [cl_nI (by omega)]) ?_
              refine W.eq (g2 := F0 m 112 ls [.int (bI true)]) (by rw [hh]) ?_
              refine lv_if_eq hx hb d_M_count_112 rfl (fun h9 => absurd h9 (by decide)) (fun _ => ?_)
              refine lv_iinc (k := 1) (v := nI (zCntH r j i + 1)) hx hb d_M_count_115 hl rfl (nI_1 _) (by decide) rfl (fun ls hl => ?_)
              have hl : lv_has ls 5 [(3, .int (nI (zCntH r j i + 1))), (4, .int (nI i)), (0, .ref (a 0)), (1, .int (nI j)), (2, .int (nI 1))] := hl
              refine lv_iinc (k := 1) (v := nI (i + 1)) hx hb d_M_count_118 hl rfl (nI_1 i) (by decide) rfl (fun ls hl => ?_)
              have hl : lv_has ls 5 [(4, .int (nI (i + 1))), (3, .int (nI (zCntH r j i + 1))), (0, .ref (a 0)), (1, .int (nI j)), (2, .int (nI 1))] := hl
              refine lv_goto hx hb d_M_count_121 rfl ?_
              exact ih (i + 1) H _ ls (by omega) (by omega) (by rw [hz]; exact hl) hP hS
            | false =>
              have hz : zCntH r j (i + 1) = zCntH r j i + 0 := by show zCntH r j i + (if zH r (zAt r j i) = true then 1 else 0) = _; rw [if_neg (by rw [hh]; decide)]
              refine lv_aload_n hx hb d_M_count_100 rfl (lv_at hl 2 rfl) ?_
              refine va_get (D := (dC, dI)) (ci := 2) (v := .ref (a 6)) (C := R_M) (T := F_M) (N := 11) hx hb hB in_M hown hK hP 0 rfl rfl 6 (by decide) (hB _ bw_361) (fun _ h9 => h9) rfl d_M_count_101 ?_
              refine lv_aload_n hx hb d_M_count_104 rfl (lv_at hl 2 rfl) ?_
              refine lv_iload_n hx hb d_M_count_105 rfl (lv_at hl 3 rfl) ?_
              refine lv_iload hx hb d_M_count_106 (lv_at hl 0 rfl) ?_
              refine vp_callSi (va_Run.run (va_runV (As := [.int (nI j), .int (nI i)]) (rest := [.ref (a 6)]) ⟨hx, hb, hml, hown, hB⟩ (m_M_last l dC dI k a (0, zC r, zW r, zG r, zP r, zS r, zH r, zR r, zO r, zD r, zL r) j i (by omega) (by omega) hp1 hp5) (cwV 2 hB (BIG_V bw_397 bw_398 bw_11 bw_18 bw_399) rfl rfl rfl ⟨rfl, by decide, by decide, by decide +kernel⟩ ⟨Nat.le_of_ble_eq_true rfl, Nat.le_of_ble_eq_true rfl⟩) (mRc_pre _ hP hK) rfl rfl hl.1 rfl (lv_room (Nat.le_of_ble_eq_true rfl)) d_M_count_108 ⟨Nat.zero_le _, Nat.zero_le _⟩)) (fun r7 hr7 => ?_)
              refine W.eq (g2 := F0 m 111 ls [.int (nI (zAt r j i)), .ref (a 6)]) (by rw [hr7]; rfl) ?_
              refine va_zald hx hb hK hP 6 4 rfl rfl (pk_in (zAt r j i) 1280 (by omega)) d_M_count_111 ?_
              refine W.eq (g2 := F0 m 112 ls [.int (bI (zH r (zAt r j i)))]) (by rw [cl_nI (by omega)]) ?_
              refine W.eq (g2 := F0 m 112 ls [.int (bI false)]) (by rw [hh]) ?_
              refine lv_if_eq hx hb d_M_count_112 rfl (fun _ => ?_) (fun h9 => absurd (by decide) h9)
              refine lv_iinc (k := 0) (v := nI (i + 1)) hx hb d_M_count_118 hl rfl (nI_1 i) (by decide) rfl (fun ls hl => ?_)
              have hl : lv_has ls 5 [(4, .int (nI (i + 1))), (3, .int (nI (zCntH r j i))), (0, .ref (a 0)), (1, .int (nI j)), (2, .int (nI 1))] := hl
              refine lv_goto hx hb d_M_count_121 rfl ?_
              exact ih (i + 1) H _ ls (by omega) (by omega) (by rw [hz]; exact hl) hP hS
        · subst h4
          suffices key : ∀ n i (H : Heap) (locs : List Loc) (ls : Array Slot), i ≤ 32 → 32 - i = n → lv_has ls 5 [(4, .int (nI i)), (3, .int (nI 0)), (0, .ref (a 0)), (1, .int (nI j)), (2, .int (nI 2))] → va_P (dC, dI) vwC (mW k a (0, zC r, zW r, zG r, zP r, zS r, zH r, zR r, zO r, zD r, zL r)) H → va_S A s.heap H locs → W p l e _ s m _ below meth c H locs 0 0 (MQ below (va_Qi (fun o u => (o, u) = zCount r (nI j) (nI 2)) (mB dC dI k a) A) _ s 0 0 A) (F0 m 66 ls []) from key _ 0 _ _ ls (by omega) rfl hl hP hS
          clear hS hP hD hl
          intro n
          induction n with
          | zero =>
            intro i H locs ls hi hn hl hP hS
            have hie : i = 32 := by omega
            subst hie
            have hD : va_D A (mW k a (0, zC r, zW r, zG r, zP r, zS r, zH r, zR r, zO r, zD r, zL r)) := mW_D hDk
            refine lv_iload hx hb d_M_count_66 (lv_at hl 0 rfl) ?_
            refine lv_bipush (v := nI 32) hx hb d_M_count_68 (by decide) ?_
            refine lv_icmp_ge hx hb d_M_count_70 rfl (fun _ => ?_) (fun h9 => absurd (nI_le (Nat.le_refl 32) (by omega)) h9)
            refine lv_iload_n hx hb d_M_count_124 rfl (lv_at hl 4 rfl) ?_
            refine lv_iconst (v := nI 2) hx hb d_M_count_125 (by decide) ?_
            refine lv_icmp_ge hx hb d_M_count_126 rfl (fun _ => ?_) (fun h9 => absurd (by decide) h9)
            refine lv_iload_n hx hb d_M_count_133 rfl (lv_at hl 4 rfl) ?_
            refine lv_iconst (v := nI 2) hx hb d_M_count_134 (by decide) ?_
            refine lv_icmp_ne hx hb d_M_count_135 rfl (fun h9 => absurd h9 (by decide)) (fun _ => ?_)
            refine lv_aload_n hx hb d_M_count_138 rfl (lv_at hl 2 rfl) ?_
            refine va_get (D := (dC, dI)) (ci := 2) (v := .ref (a 4)) (C := R_M) (T := F_M) (N := 11) hx hb hB in_M hown hK hP 0 rfl rfl 4 (by decide) (hB _ bw_359) (fun _ h9 => h9) rfl d_M_count_139 ?_
            refine lv_iload_n hx hb d_M_count_142 rfl (lv_at hl 3 rfl) ?_
            refine va_iald hx hb hK hP 4 0 rfl rfl (pk_in j 8 (by omega)) d_M_count_143 ?_
            refine W.eq (g2 := F0 m 144 ls [.int (nI (zP r j))]) (by rw [cl_nI (by omega)]) ?_
            refine lv_goto hx hb d_M_count_144 rfl ?_
            exact W.iret (v := nI (zP r j)) hx hb hr (fun t ht hW => ⟨⟨nI (zP r j), (0, zC r, zW r, zG r, zP r, zS r, zH r, zR r, zO r, zD r, zL r), rfl, by unfold zCount; rw [hq]; dsimp only; rw [hy]; dsimp only; rw [if_neg (by rw [ho]; decide)]; first | done | rfl, by show va_P (dC, dI) vwC _ t.heap; rw [ht]; exact hP⟩, hS.F ht⟩) hS.2.2 d_M_count_160
          | succ n ih =>
            intro i H locs ls hi hn hl hP hS
            have hlt : i < 32 := by omega
            have hD : va_D A (mW k a (0, zC r, zW r, zG r, zP r, zS r, zH r, zR r, zO r, zD r, zL r)) := mW_D hDk
            refine lv_iload hx hb d_M_count_66 (lv_at hl 0 rfl) ?_
            refine lv_bipush (v := nI 32) hx hb d_M_count_68 (by decide) ?_
            refine lv_icmp_ge hx hb d_M_count_70 rfl (fun h9 => absurd h9 (nI_ge hlt (by omega))) (fun _ => ?_)
            refine lv_iload_n hx hb d_M_count_73 rfl (lv_at hl 4 rfl) ?_
            refine lv_if_ne hx hb d_M_count_74 rfl (fun _ => ?_) (fun h9 => absurd h9 (by decide))
            refine lv_iload_n hx hb d_M_count_95 rfl (lv_at hl 4 rfl) ?_
            refine lv_iconst (v := nI 1) hx hb d_M_count_96 (by decide) ?_
            refine lv_icmp_ne hx hb d_M_count_97 rfl (fun _ => ?_) (fun h9 => absurd h9 (by decide))
            refine lv_iinc (k := 0) (v := nI (i + 1)) hx hb d_M_count_118 hl rfl (nI_1 i) (by decide) rfl (fun ls hl => ?_)
            have hl : lv_has ls 5 [(4, .int (nI (i + 1))), (3, .int (nI 0)), (0, .ref (a 0)), (1, .int (nI j)), (2, .int (nI 2))] := hl
            refine lv_goto hx hb d_M_count_121 rfl ?_
            exact ih (i + 1) H _ ls (by omega) (by omega) (by exact hl) hP hS
        · subst h4
          suffices key : ∀ n i (H : Heap) (locs : List Loc) (ls : Array Slot), i ≤ 32 → 32 - i = n → lv_has ls 5 [(4, .int (nI i)), (3, .int (nI 0)), (0, .ref (a 0)), (1, .int (nI j)), (2, .int (nI 3))] → va_P (dC, dI) vwC (mW k a (0, zC r, zW r, zG r, zP r, zS r, zH r, zR r, zO r, zD r, zL r)) H → va_S A s.heap H locs → W p l e _ s m _ below meth c H locs 0 0 (MQ below (va_Qi (fun o u => (o, u) = zCount r (nI j) (nI 3)) (mB dC dI k a) A) _ s 0 0 A) (F0 m 66 ls []) from key _ 0 _ _ ls (by omega) rfl hl hP hS
          clear hS hP hD hl
          intro n
          induction n with
          | zero =>
            intro i H locs ls hi hn hl hP hS
            have hie : i = 32 := by omega
            subst hie
            have hD : va_D A (mW k a (0, zC r, zW r, zG r, zP r, zS r, zH r, zR r, zO r, zD r, zL r)) := mW_D hDk
            refine lv_iload hx hb d_M_count_66 (lv_at hl 0 rfl) ?_
            refine lv_bipush (v := nI 32) hx hb d_M_count_68 (by decide) ?_
            refine lv_icmp_ge hx hb d_M_count_70 rfl (fun _ => ?_) (fun h9 => absurd (nI_le (Nat.le_refl 32) (by omega)) h9)
            refine lv_iload_n hx hb d_M_count_124 rfl (lv_at hl 4 rfl) ?_
            refine lv_iconst (v := nI 2) hx hb d_M_count_125 (by decide) ?_
            refine lv_icmp_ge hx hb d_M_count_126 rfl (fun _ => ?_) (fun h9 => absurd (by decide) h9)
            refine lv_iload_n hx hb d_M_count_133 rfl (lv_at hl 4 rfl) ?_
            refine lv_iconst (v := nI 2) hx hb d_M_count_134 (by decide) ?_
            refine lv_icmp_ne hx hb d_M_count_135 rfl (fun _ => ?_) (fun h9 => absurd h9 (by decide))
            refine lv_aload_n hx hb d_M_count_147 rfl (lv_at hl 2 rfl) ?_
            refine lv_iload_n hx hb d_M_count_148 rfl (lv_at hl 3 rfl) ?_
            refine vp_callSi (va_Run.run (va_runV (As := [.int (nI j)]) (rest := []) ⟨hx, hb, hml, hown, hB⟩ (m_M_isStale l dC dI k a (0, zC r, zW r, zG r, zP r, zS r, zH r, zR r, zO r, zD r, zL r) j hj) (cwV 1 hB (BIG_V bw_408 bw_409 bw_12 bw_18 bw_410) rfl rfl rfl ⟨rfl, by decide, by decide, by decide +kernel⟩ ⟨Nat.le_of_ble_eq_true rfl, Nat.le_of_ble_eq_true rfl⟩) (mRc_pre _ hP hK) rfl rfl hl.1 rfl (lv_room (Nat.le_of_ble_eq_true rfl)) d_M_count_149 ⟨Nat.zero_le _, Nat.zero_le _⟩)) (fun r7 hr7 => ?_)
            refine W.eq (g2 := F0 m 152 ls [.int (bI (zSt r j 32))]) (by rw [hr7, zSt_cg (r := (0, zC r, zW r, zG r, zP r, zS r, zH r, zR r, zO r, zD r, zL r)) (r2 := r) rfl rfl rfl]) ?_
            cases hs : zSt r j 32 with
            | true =>
              refine lv_if_eq hx hb d_M_count_152 rfl (fun h9 => absurd h9 (by decide)) (fun _ => ?_)
              refine lv_iconst (v := bI true) hx hb d_M_count_155 (by decide) ?_
              refine lv_goto hx hb d_M_count_156 rfl ?_
              exact W.iret (v := bI true) hx hb hr (fun t ht hW => ⟨⟨bI true, (0, zC r, zW r, zG r, zP r, zS r, zH r, zR r, zO r, zD r, zL r), rfl, by unfold zCount; rw [hq]; dsimp only; rw [hy]; dsimp only; rw [if_neg (by rw [ho]; decide)]; rw [hs]; first | done | rfl, by show va_P (dC, dI) vwC _ t.heap; rw [ht]; exact hP⟩, hS.F ht⟩) hS.2.2 d_M_count_160
            | false =>
              refine lv_if_eq hx hb d_M_count_152 rfl (fun _ => ?_) (fun h9 => absurd (by decide) h9)
              refine lv_iconst (v := bI false) hx hb d_M_count_159 (by decide) ?_
              exact W.iret (v := bI false) hx hb hr (fun t ht hW => ⟨⟨bI false, (0, zC r, zW r, zG r, zP r, zS r, zH r, zR r, zO r, zD r, zL r), rfl, by unfold zCount; rw [hq]; dsimp only; rw [hy]; dsimp only; rw [if_neg (by rw [ho]; decide)]; rw [hs]; first | done | rfl, by show va_P (dC, dI) vwC _ t.heap; rw [ht]; exact hP⟩, hS.F ht⟩) hS.2.2 d_M_count_160
          | succ n ih =>
            intro i H locs ls hi hn hl hP hS
            have hlt : i < 32 := by omega
            have hD : va_D A (mW k a (0, zC r, zW r, zG r, zP r, zS r, zH r, zR r, zO r, zD r, zL r)) := mW_D hDk
            refine lv_iload hx hb d_M_count_66 (lv_at hl 0 rfl) ?_
            refine lv_bipush (v := nI 32) hx hb d_M_count_68 (by decide) ?_
            refine lv_icmp_ge hx hb d_M_count_70 rfl (fun h9 => absurd h9 (nI_ge hlt (by omega))) (fun _ => ?_)
            refine lv_iload_n hx hb d_M_count_73 rfl (lv_at hl 4 rfl) ?_
            refine lv_if_ne hx hb d_M_count_74 rfl (fun _ => ?_) (fun h9 => absurd h9 (by decide))
            refine lv_iload_n hx hb d_M_count_95 rfl (lv_at hl 4 rfl) ?_
            refine lv_iconst (v := nI 1) hx hb d_M_count_96 (by decide) ?_
            refine lv_icmp_ne hx hb d_M_count_97 rfl (fun _ => ?_) (fun h9 => absurd h9 (by decide))
            refine lv_iinc (k := 0) (v := nI (i + 1)) hx hb d_M_count_118 hl rfl (nI_1 i) (by decide) rfl (fun ls hl => ?_)
            have hl : lv_has ls 5 [(4, .int (nI (i + 1))), (3, .int (nI 0)), (0, .ref (a 0)), (1, .int (nI j)), (2, .int (nI 3))] := hl
            refine lv_goto hx hb d_M_count_121 rfl ?_
            exact ih (i + 1) H _ ls (by omega) (by omega) (by exact hl) hP hS
set_option maxHeartbeats 4000000 in
set_option maxRecDepth 100000 in
theorem m_M_all (l : Launch) (dC : Nat → ClassId) (dI : Nat → Nat → Nat) (k : Nat → ClassId) (a : Nat → Nat) (sz : Nat) (r : xRS) (ww : Int32) : Met l y_M_all w_M_all (rmx 2 0 0 80) (mPc dC dI k a sz r [.ref (a 0), .int ww]) (va_Qi (fun o u => (o, u) = zAll r ww) (mB dC dI k a) (va_A (mW k a r) sz)) 0 0 (va_A (mW k a r) sz) := by
  refine Met.ofW (cc := c_M_all) (maxL := 4) (ret := (some .int)) (by decide) rfl ?_
  intro p e s m args below meth c s₁ B hml hv
  obtain ⟨rfl, hsz, hP, hK, hD0⟩ := hv
  have hx := B.exec
  have hb := B.bytes
  have hr := B.returns
  have hts := atoms_spec (ws := w_M_all) B.pre
  have hB : ∀ w ∈ BIG, w.before _ s = true := fun w h => hts w (List.mem_cons_of_mem _ h)
  have hown : s.vm.findClass R_M = some m.cls := findClass_of_methodNamed B.named
  have hlocks := B.notSynchronized
  have hl := lv_entry ([.ref (a 0), .int ww]) (n := 4) (Nat.le_of_ble_eq_true rfl)
  rw [lg_entry_eq]
  generalize (lg_sl ([.ref (a 0), .int ww]) ++ List.replicate (4 - (lg_sl ([.ref (a 0), .int ww])).length) Slot.unset).toArray = ls at hl ⊢
  have hl : lv_has ls 4 [(0, .ref (a 0)), (1, .int ww)] := hl
  subst hsz
  have hD := hD0.self (sz := s.heap.size)
  generalize hAe : va_A (mW k a r) s.heap.size = A at hD ⊢
  have hA : ∀ q : Nat, s.heap.size ≤ q → A q := fun q h => by rw [← hAe]; exact Or.inr h
  have hS : va_S A s.heap s.heap [] := va_S.rf
  have hDk := hD
  cases hy : ix 3 ww with
  | none =>
    refine lv_aload_n hx hb d_M_all_0 rfl (lv_at hl 0 rfl) ?_
    refine lv_iconst (v := 0) hx hb d_M_all_1 (by decide) ?_
    refine va_put (D := (dC, dI)) (ci := 2) (v := .int 0) (ty := .int) (C := R_M) (T := F_M) (N := 11) hx hb hB in_M tf_M ty_M nm_M hown hK hP hD hS 0 rfl rfl 0 (by decide) (hB _ bw_355) (fun _ h9 => h9) rfl (by decide +kernel) rfl rfl (Nat.le_of_ble_eq_true rfl) d_M_all_2 (fun H locs hP hD hS => ?_)
    have hP : va_P (dC, dI) vwC (mW k a (0, zC r, zW r, zG r, zP r, zS r, zH r, zR r, zO r, zD r, zL r)) H := hP
    have hD : va_D A (mW k a (0, zC r, zW r, zG r, zP r, zS r, zH r, zR r, zO r, zD r, zL r)) := hD
    refine lv_aload_n hx hb d_M_all_5 rfl (lv_at hl 0 rfl) ?_
    refine lv_iload_n hx hb d_M_all_6 rfl (lv_at hl 1 rfl) ?_
    refine lv_i2l hx hb d_M_all_7 rfl ?_
    refine lv_lconst (v := 0) hx hb d_M_all_8 (by decide) ?_
    refine lv_ldc2 hx hb hown (hB _ bw_462) d_M_all_9 ?_
    refine vp_callSi (va_Run.run (va_runS (As := [.long ww.toInt64, .long 0, .long 2]) (rest := [.ref (a 0)]) ⟨hx, hb, hml, hown, hB⟩ (m_M_in l ww.toInt64 0 2) (va_cwS 3 hB (BIG_SS bw_391 bw_392 bw_18 bw_393) rfl rfl rfl ⟨by decide, by decide, by decide +kernel⟩ ⟨Nat.le_of_ble_eq_true rfl, Nat.le_of_ble_eq_true rfl⟩) preEq rfl rfl hl.1 rfl (lv_room (Nat.le_of_ble_eq_true rfl)) d_M_all_12 ⟨Nat.zero_le _, Nat.zero_le _⟩)) (fun r7 hr7 => ?_)
    refine W.eq (g2 := F0 m 15 ls [.int (bI false), .ref (a 0)]) (by rw [hr7, in_ix (n := 2) (by decide), hy]; rfl) ?_
    refine lv_if_ne hx hb d_M_all_15 rfl (fun h9 => absurd h9 (by decide)) (fun _ => ?_)
    refine lv_iconst (v := bI true) hx hb d_M_all_18 (by decide) ?_
    refine lv_goto hx hb d_M_all_19 rfl ?_
    refine lv_iconst (v := 1) hx hb d_M_all_23 (by decide) ?_
    have hFc := va_free (wc := mW k a (0, zC r, zW r, zG r, zP r, zS r, zH r, zR r, zO r, zD r, zL r)) hD hS hA [0, 1, 2, 3, 4, 5, 6, 7, 8] rfl
    refine va_calli (va_runV (As := [.int (bI true), .int 1]) (rest := []) ⟨hx, hb, hml, hown, hB⟩ (m_M_fails_t l dC dI k a _ (0, zC r, zW r, zG r, zP r, zS r, zH r, zR r, zO r, zD r, zL r) 1 rfl (by decide)) (cwV 2 hB (BIG_V bw_394 bw_395 bw_10 bw_18 bw_396) rfl rfl rfl ⟨rfl, by decide, by decide, by decide +kernel⟩ ⟨Nat.le_of_ble_eq_true rfl, Nat.le_of_ble_eq_true rfl⟩) (mPc_pre _ hP hK hD) rfl rfl hl.1 rfl (lv_room (Nat.le_of_ble_eq_true rfl)) d_M_all_24 ⟨Nat.zero_le _, Nat.zero_le _⟩) hS (fun q _ h => hFc q h) hFc (fun r7 u t H1 locs ht hvm hw hB1 hz1 hk1 hS => ?_)
    obtain ⟨hw1, hw2⟩ := hw
    subst hw1
    subst hw2
    have hP : va_P (dC, dI) vwC (mW k a (zErr (0, zC r, zW r, zG r, zP r, zS r, zH r, zR r, zO r, zD r, zL r) 1)) H1 := by rw [← ht]; exact hB1
    have hD : va_D A (mW k a (zErr (0, zC r, zW r, zG r, zP r, zS r, zH r, zR r, zO r, zD r, zL r) 1)) := mW_D hDk
    clear hFc hB1 hk1 hz1 ht hvm
    generalize H1 = H at hP hS ⊢
    have hP : va_P (dC, dI) vwC (mW k a (1, zC r, zW r, zG r, zP r, zS r, zH r, zR r, zO r, zD r, zL r)) H := hP
    have hD : va_D A (mW k a (1, zC r, zW r, zG r, zP r, zS r, zH r, zR r, zO r, zD r, zL r)) := hD
    refine lv_if_eq hx hb d_M_all_27 rfl (fun h9 => absurd h9 (by decide)) (fun _ => ?_)
    refine lv_iconst (v := 0) hx hb d_M_all_30 (by decide) ?_
    exact W.iret (v := 0) hx hb hr (fun t ht hW => ⟨⟨0, (1, zC r, zW r, zG r, zP r, zS r, zH r, zR r, zO r, zD r, zL r), rfl, by unfold zAll; rw [hy]; first | done | rfl, by show va_P (dC, dI) vwC _ t.heap; rw [ht]; exact hP⟩, hS.F ht⟩) hS.2.2 d_M_all_31
  | some c8 =>
    obtain ⟨hc8, htc⟩ := ix_some (by decide) hy
    subst htc
    refine lv_aload_n hx hb d_M_all_0 rfl (lv_at hl 0 rfl) ?_
    refine lv_iconst (v := 0) hx hb d_M_all_1 (by decide) ?_
    refine va_put (D := (dC, dI)) (ci := 2) (v := .int 0) (ty := .int) (C := R_M) (T := F_M) (N := 11) hx hb hB in_M tf_M ty_M nm_M hown hK hP hD hS 0 rfl rfl 0 (by decide) (hB _ bw_355) (fun _ h9 => h9) rfl (by decide +kernel) rfl rfl (Nat.le_of_ble_eq_true rfl) d_M_all_2 (fun H locs hP hD hS => ?_)
    have hP : va_P (dC, dI) vwC (mW k a (0, zC r, zW r, zG r, zP r, zS r, zH r, zR r, zO r, zD r, zL r)) H := hP
    have hD : va_D A (mW k a (0, zC r, zW r, zG r, zP r, zS r, zH r, zR r, zO r, zD r, zL r)) := hD
    refine lv_aload_n hx hb d_M_all_5 rfl (lv_at hl 0 rfl) ?_
    refine lv_iload_n hx hb d_M_all_6 rfl (lv_at hl 1 rfl) ?_
    refine lv_i2l hx hb d_M_all_7 rfl ?_
    refine lv_lconst (v := 0) hx hb d_M_all_8 (by decide) ?_
    refine lv_ldc2 hx hb hown (hB _ bw_462) d_M_all_9 ?_
    refine vp_callSi (va_Run.run (va_runS (As := [.long ((nI c8).toInt64), .long 0, .long 2]) (rest := [.ref (a 0)]) ⟨hx, hb, hml, hown, hB⟩ (m_M_in l (nI c8).toInt64 0 2) (va_cwS 3 hB (BIG_SS bw_391 bw_392 bw_18 bw_393) rfl rfl rfl ⟨by decide, by decide, by decide +kernel⟩ ⟨Nat.le_of_ble_eq_true rfl, Nat.le_of_ble_eq_true rfl⟩) preEq rfl rfl hl.1 rfl (lv_room (Nat.le_of_ble_eq_true rfl)) d_M_all_12 ⟨Nat.zero_le _, Nat.zero_le _⟩)) (fun r7 hr7 => ?_)
    refine W.eq (g2 := F0 m 15 ls [.int (bI true), .ref (a 0)]) (by rw [hr7, in_ix (n := 2) (by decide), hy]; rfl) ?_
    refine lv_if_ne hx hb d_M_all_15 rfl (fun _ => ?_) (fun h9 => absurd h9 (by decide))
    refine lv_iconst (v := bI false) hx hb d_M_all_22 (by decide) ?_
    refine lv_iconst (v := 1) hx hb d_M_all_23 (by decide) ?_
    have hFc := va_free (wc := mW k a (0, zC r, zW r, zG r, zP r, zS r, zH r, zR r, zO r, zD r, zL r)) hD hS hA [0, 1, 2, 3, 4, 5, 6, 7, 8] rfl
    refine va_calli (va_runV (As := [.int (bI false), .int 1]) (rest := []) ⟨hx, hb, hml, hown, hB⟩ (m_M_fails_f l dC dI k a _ (0, zC r, zW r, zG r, zP r, zS r, zH r, zR r, zO r, zD r, zL r) 1 rfl) (cwV 2 hB (BIG_V bw_394 bw_395 bw_10 bw_18 bw_396) rfl rfl rfl ⟨rfl, by decide, by decide, by decide +kernel⟩ ⟨Nat.le_of_ble_eq_true rfl, Nat.le_of_ble_eq_true rfl⟩) (mPc_pre _ hP hK hD) rfl rfl hl.1 rfl (lv_room (Nat.le_of_ble_eq_true rfl)) d_M_all_24 ⟨Nat.zero_le _, Nat.zero_le _⟩) hS (fun q _ h => hFc q h) hFc (fun r7 u t H1 locs ht hvm hw hB1 hz1 hk1 hS => ?_)
    obtain ⟨hw1, hw2⟩ := hw
    subst hw1
    subst hw2
    have hP : va_P (dC, dI) vwC (mW k a (0, zC r, zW r, zG r, zP r, zS r, zH r, zR r, zO r, zD r, zL r)) H1 := by rw [← ht]; exact hB1
    have hD : va_D A (mW k a (0, zC r, zW r, zG r, zP r, zS r, zH r, zR r, zO r, zD r, zL r)) := mW_D hDk
    clear hFc hB1 hk1 hz1 ht hvm
    generalize H1 = H at hP hS ⊢
    refine lv_if_eq hx hb d_M_all_27 rfl (fun _ => ?_) (fun h9 => absurd (by decide) h9)
    refine lv_iconst (v := nI 0) hx hb d_M_all_32 (by decide) ?_
    refine lv_istore_n hx hb d_M_all_33 rfl hl (by decide) rfl (fun ls hl => ?_)
    have hl : lv_has ls 4 [(2, .int (nI 0)), (0, .ref (a 0)), (1, .int (nI c8))] := hl
    refine lv_iconst (v := nI 0) hx hb d_M_all_34 (by decide) ?_
    refine lv_istore_n hx hb d_M_all_35 rfl hl (by decide) rfl (fun ls hl => ?_)
    have hl : lv_has ls 4 [(3, .int (nI 0)), (2, .int (nI 0)), (0, .ref (a 0)), (1, .int (nI c8))] := hl
    suffices key : ∀ n i (H : Heap) (locs : List Loc) (ls : Array Slot), i ≤ 8 → 8 - i = n → lv_has ls 4 [(3, .int (nI i)), (2, .int (nI (zOpn r i))), (0, .ref (a 0)), (1, .int (nI c8))] → va_P (dC, dI) vwC (mW k a (0, zC r, zW r, zG r, zP r, zS r, zH r, zR r, zO r, zD r, zL r)) H → va_S A s.heap H locs → W p l e _ s m _ below meth c H locs 0 0 (MQ below (va_Qi (fun o u => (o, u) = zAll r (nI c8)) (mB dC dI k a) A) _ s 0 0 A) (F0 m 36 ls []) from key _ 0 _ _ ls (by omega) rfl hl hP hS
    clear hS hP hD hl
    intro n
    induction n with
    | zero =>
      intro i H locs ls hi hn hl hP hS
      have hie : i = 8 := by omega
      subst hie
      have hD : va_D A (mW k a (0, zC r, zW r, zG r, zP r, zS r, zH r, zR r, zO r, zD r, zL r)) := mW_D hDk
      refine lv_iload_n hx hb d_M_all_36 rfl (lv_at hl 0 rfl) ?_
      refine lv_bipush (v := nI 8) hx hb d_M_all_37 (by decide) ?_
      refine lv_icmp_ge hx hb d_M_all_39 rfl (fun _ => ?_) (fun h9 => absurd (nI_le (Nat.le_refl 8) (by omega)) h9)
      refine lv_iload_n hx hb d_M_all_60 rfl (lv_at hl 3 rfl) ?_
      have h4 : c8 = 0 ∨ c8 = 1 ∨ c8 = 2 := by omega
      rcases h4 with h4 | h4 | h4
      · subst h4
        refine lv_if_ne hx hb d_M_all_61 rfl (fun h9 => absurd h9 (fun q => q rfl)) (fun _ => ?_)
        refine lv_iload_n hx hb d_M_all_64 rfl (lv_at hl 1 rfl) ?_
        refine lv_goto hx hb d_M_all_65 rfl ?_
        exact W.iret (v := nI (zOpn r 8)) hx hb hr (fun t ht hW => ⟨⟨nI (zOpn r 8), (0, zC r, zW r, zG r, zP r, zS r, zH r, zR r, zO r, zD r, zL r), rfl, by unfold zAll; rw [hy]; first | done | rfl, by show va_P (dC, dI) vwC _ t.heap; rw [ht]; exact hP⟩, hS.F ht⟩) hS.2.2 d_M_all_84
      · subst h4
        refine lv_if_ne hx hb d_M_all_61 rfl (fun _ => ?_) (fun h9 => absurd h9 (by decide))
        refine lv_iload_n hx hb d_M_all_68 rfl (lv_at hl 3 rfl) ?_
        refine lv_iconst (v := nI 1) hx hb d_M_all_69 (by decide) ?_
        refine lv_icmp_ne hx hb d_M_all_70 rfl (fun h9 => absurd h9 (fun q => q rfl)) (fun _ => ?_)
        refine lv_aload_n hx hb d_M_all_73 rfl (lv_at hl 2 rfl) ?_
        refine va_get (D := (dC, dI)) (ci := 2) (v := .int (zD r)) (C := R_M) (T := F_M) (N := 11) hx hb hB in_M hown hK hP 0 rfl rfl 9 (by decide) (hB _ bw_364) (fun _ h9 => h9) rfl d_M_all_74 ?_
        refine lv_goto hx hb d_M_all_77 rfl ?_
        exact W.iret (v := zD r) hx hb hr (fun t ht hW => ⟨⟨zD r, (0, zC r, zW r, zG r, zP r, zS r, zH r, zR r, zO r, zD r, zL r), rfl, by unfold zAll; rw [hy]; first | done | rfl, by show va_P (dC, dI) vwC _ t.heap; rw [ht]; exact hP⟩, hS.F ht⟩) hS.2.2 d_M_all_84
      · subst h4
        refine lv_if_ne hx hb d_M_all_61 rfl (fun _ => ?_) (fun h9 => absurd h9 (by decide))
        refine lv_iload_n hx hb d_M_all_68 rfl (lv_at hl 3 rfl) ?_
        refine lv_iconst (v := nI 1) hx hb d_M_all_69 (by decide) ?_
        refine lv_icmp_ne hx hb d_M_all_70 rfl (fun _ => ?_) (fun h9 => absurd h9 (by decide))
        refine lv_aload_n hx hb d_M_all_80 rfl (lv_at hl 2 rfl) ?_
        refine va_get (D := (dC, dI)) (ci := 2) (v := .int (zL r)) (C := R_M) (T := F_M) (N := 11) hx hb hB in_M hown hK hP 0 rfl rfl 10 (by decide) (hB _ bw_365) (fun _ h9 => h9) rfl d_M_all_81 ?_
        exact W.iret (v := zL r) hx hb hr (fun t ht hW => ⟨⟨zL r, (0, zC r, zW r, zG r, zP r, zS r, zH r, zR r, zO r, zD r, zL r), rfl, by unfold zAll; rw [hy]; first | done | rfl, by show va_P (dC, dI) vwC _ t.heap; rw [ht]; exact hP⟩, hS.F ht⟩) hS.2.2 d_M_all_84
    | succ n ih =>
      intro i H locs ls hi hn hl hP hS
      have hlt : i < 8 := by omega
      have hD : va_D A (mW k a (0, zC r, zW r, zG r, zP r, zS r, zH r, zR r, zO r, zD r, zL r)) := mW_D hDk
      refine lv_iload_n hx hb d_M_all_36 rfl (lv_at hl 0 rfl) ?_
      refine lv_bipush (v := nI 8) hx hb d_M_all_37 (by decide) ?_
      refine lv_icmp_ge hx hb d_M_all_39 rfl (fun h9 => absurd h9 (nI_ge hlt (by omega))) (fun _ => ?_)
      cases hh : zO r i with
      | true =>
        have hz : zOpn r (i + 1) = zOpn r i + 1 := by show zOpn r i + (if zO r i = true then 1 else 0) = _; rw [if_pos hh]
        refine lv_aload_n hx hb d_M_all_42 rfl (lv_at hl 2 rfl) ?_
        refine va_get (D := (dC, dI)) (ci := 2) (v := .ref (a 8)) (C := R_M) (T := F_M) (N := 11) hx hb hB in_M hown hK hP 0 rfl rfl 8 (by decide) (hB _ bw_363) (fun _ h9 => h9) rfl d_M_all_43 ?_
        refine lv_iload_n hx hb d_M_all_46 rfl (lv_at hl 0 rfl) ?_
        refine va_zald hx hb hK hP 8 4 rfl rfl (pk_in i 8 (by omega)) d_M_all_47 ?_
        refine W.eq (g2 := F0 m 48 ls [.int (bI (zO r i))]) (by rw [cl_nI (by omega)]) ?_
        refine W.eq (g2 := F0 m 48 ls [.int (bI true)]) (by rw [hh]) ?_
        refine lv_if_eq hx hb d_M_all_48 rfl (fun h9 => absurd h9 (by decide)) (fun _ => ?_)
        refine lv_iinc (k := 1) (v := nI (zOpn r i + 1)) hx hb d_M_all_51 hl rfl (nI_1 _) (by decide) rfl (fun ls hl => ?_)
        have hl : lv_has ls 4 [(2, .int (nI (zOpn r i + 1))), (3, .int (nI i)), (0, .ref (a 0)), (1, .int (nI c8))] := hl
        refine lv_iinc (k := 1) (v := nI (i + 1)) hx hb d_M_all_54 hl rfl (nI_1 i) (by decide) rfl (fun ls hl => ?_)
        have hl : lv_has ls 4 [(3, .int (nI (i + 1))), (2, .int (nI (zOpn r i + 1))), (0, .ref (a 0)), (1, .int (nI c8))] := hl
        refine lv_goto hx hb d_M_all_57 rfl ?_
        exact ih (i + 1) H _ ls (by omega) (by omega) (by rw [hz]; exact hl) hP hS
      | false =>
        have hz : zOpn r (i + 1) = zOpn r i + 0 := by show zOpn r i + (if zO r i = true then 1 else 0) = _; rw [if_neg (by rw [hh]; decide)]
        refine lv_aload_n hx hb d_M_all_42 rfl (lv_at hl 2 rfl) ?_
        refine va_get (D := (dC, dI)) (ci := 2) (v := .ref (a 8)) (C := R_M) (T := F_M) (N := 11) hx hb hB in_M hown hK hP 0 rfl rfl 8 (by decide) (hB _ bw_363) (fun _ h9 => h9) rfl d_M_all_43 ?_
        refine lv_iload_n hx hb d_M_all_46 rfl (lv_at hl 0 rfl) ?_
        refine va_zald hx hb hK hP 8 4 rfl rfl (pk_in i 8 (by omega)) d_M_all_47 ?_
        refine W.eq (g2 := F0 m 48 ls [.int (bI (zO r i))]) (by rw [cl_nI (by omega)]) ?_
        refine W.eq (g2 := F0 m 48 ls [.int (bI false)]) (by rw [hh]) ?_
        refine lv_if_eq hx hb d_M_all_48 rfl (fun _ => ?_) (fun h9 => absurd (by decide) h9)
        refine lv_iinc (k := 0) (v := nI (i + 1)) hx hb d_M_all_54 hl rfl (nI_1 i) (by decide) rfl (fun ls hl => ?_)
        have hl : lv_has ls 4 [(3, .int (nI (i + 1))), (2, .int (nI (zOpn r i))), (0, .ref (a 0)), (1, .int (nI c8))] := hl
        refine lv_goto hx hb d_M_all_57 rfl ?_
        exact ih (i + 1) H _ ls (by omega) (by omega) (by rw [hz]; exact hl) hP hS
end
section
/-! The desk's cells in the heap, and what the contracts of its methods begin and end with. -/
/-- the addresses of transaction j -/
abbrev yA (b : Nat → Nat) (j : Nat) : Nat → Nat := fun i => b (4 + 8 * j + i)
def dH (k : Nat → ClassId) (b : Nat → Nat) (d : xDS) : va_W := [(b 0, .inr (1, [.ref (b 1), .ref (b 2), .ref (b 3), .int (yD d), .int (yS d)])), (b 1, .inl (k 1, 32, .inr (.inl (yN d)))), (b 2, .inl (k 0, 32, .inl (yC d))), (b 3, .inl (k 3, 8, .inr (.inr (.inr (.inr (fun i => some (yA b i 0)))))))]
def dT (k : Nat → ClassId) (b : Nat → Nat) (f : Nat → xTS) : va_W := tW k (yA b 0) (f 0) ++ (tW k (yA b 1) (f 1) ++ (tW k (yA b 2) (f 2) ++ (tW k (yA b 3) (f 3) ++ (tW k (yA b 4) (f 4) ++ (tW k (yA b 5) (f 5) ++ (tW k (yA b 6) (f 6) ++ tW k (yA b 7) (f 7)))))))
def dW (k : Nat → ClassId) (b : Nat → Nat) (d : xDS) : va_W := dH k b d ++ dT k b (yT d)
theorem dT_at {k : Nat → ClassId} {b : Nat → Nat} {f : Nat → xTS} {j i : Nat} (hj : j < 8) (hi : i < 8) : (dT k b f)[8 * j + i]? = (tW k (yA b j) (f j))[i]? := by
  rcases (show j = 0 ∨ j = 1 ∨ j = 2 ∨ j = 3 ∨ j = 4 ∨ j = 5 ∨ j = 6 ∨ j = 7 by omega) with rfl | rfl | rfl | rfl | rfl | rfl | rfl | rfl <;>
  rcases (show i = 0 ∨ i = 1 ∨ i = 2 ∨ i = 3 ∨ i = 4 ∨ i = 5 ∨ i = 6 ∨ i = 7 by omega) with rfl | rfl | rfl | rfl | rfl | rfl | rfl | rfl <;> rfl
theorem dT_len {k : Nat → ClassId} {b : Nat → Nat} {f : Nat → xTS} : (dT k b f).length = 64 := rfl
theorem dW_at {k : Nat → ClassId} {b : Nat → Nat} {d : xDS} {j i : Nat} (hj : j < 8) (hi : i < 8) : (dW k b d)[4 + 8 * j + i]? = (tW k (yA b j) (yT d j))[i]? := by
  rw [← dT_at (k := k) (b := b) (f := yT d) hj hi]
  show (dH k b d ++ dT k b (yT d))[4 + 8 * j + i]? = _
  rw [List.getElem?_append_right (by show 4 ≤ _; omega), show (dH k b d).length = 4 from rfl, show 4 + 8 * j + i - 4 = 8 * j + i by omega]
theorem dW_hd {k : Nat → ClassId} {b : Nat → Nat} {d : xDS} {n : Nat} (hn : n < 4) : (dW k b d)[n]? = (dH k b d)[n]? := List.getElem?_append_left hn
theorem dW_no {k : Nat → ClassId} {b : Nat → Nat} {d : xDS} {n : Nat} (hn : 68 ≤ n) : (dW k b d)[n]? = none := List.getElem?_eq_none hn
theorem dW_ix (n : Nat) : n < 4 ∨ (∃ j i, j < 8 ∧ i < 8 ∧ n = 4 + 8 * j + i) ∨ 68 ≤ n := by
  rcases Nat.lt_or_ge n 4 with h | h
  · exact Or.inl h
  · rcases Nat.lt_or_ge n 68 with g | g
    · exact Or.inr (Or.inl ⟨(n - 4) / 8, (n - 4) % 8, by omega, by omega, by omega⟩)
    · exact Or.inr (Or.inr g)
theorem dW_D {A : Nat → Prop} {k : Nat → ClassId} {b : Nat → Nat} {d d2 : xDS} (h : va_D A (dW k b d)) : va_D A (dW k b d2) := va_D_adr (w1 := dW k b d) (w2 := dW k b d2) rfl h
theorem dW_t {D : va_G} {cl : List vw_C} {k : Nat → ClassId} {b : Nat → Nat} {d : xDS} {H : Heap} {j : Nat} (hj : j < 8) (hP : va_P D cl (dW k b d) H) : va_P D cl (tW k (yA b j) (yT d j)) H := fun i q hq => by
  have hi : i < 8 := (List.getElem?_eq_some_iff.mp hq).1
  exact hP (4 + 8 * j + i) q (by rw [dW_at hj hi]; exact hq)
theorem dW_tD {A : Nat → Prop} {k : Nat → ClassId} {b : Nat → Nat} {d : xDS} {j : Nat} (hj : j < 8) (hD : va_D A (dW k b d)) : va_D A (tW k (yA b j) (yT d j)) := by
  refine ⟨fun i1 i2 p q hp hq e => ?_, fun i q hq => ?_⟩
  · have h1 : i1 < 8 := (List.getElem?_eq_some_iff.mp hp).1
    have h2 : i2 < 8 := (List.getElem?_eq_some_iff.mp hq).1
    have := hD.1 (4 + 8 * j + i1) (4 + 8 * j + i2) p q (by rw [dW_at hj h1]; exact hp) (by rw [dW_at hj h2]; exact hq) e
    omega
  · have hi : i < 8 := (List.getElem?_eq_some_iff.mp hq).1
    exact hD.2 (4 + 8 * j + i) q (by rw [dW_at hj hi]; exact hq)
theorem dW_free {A : Nat → Prop} {k : Nat → ClassId} {b : Nat → Nat} {d : xDS} {H0 H : Heap} {locs : List Loc} {j : Nat} (hj : j < 8) (hD : va_D A (dW k b d)) (hS : va_S A H0 H locs) (hA : ∀ q, H0.size ≤ q → A q) : ∀ q, va_A (tW k (yA b j) (yT d j)) H.size q → A q := fun q h => by
  rcases h with ⟨i, e, hi⟩ | h
  · exact (dW_tD hj hD).2 i _ hi
  · exact hA q (Nat.le_trans hS.1 h)
theorem dW_all {A : Nat → Prop} {k : Nat → ClassId} {b : Nat → Nat} {d : xDS} {H0 H : Heap} {locs : List Loc} (hD : va_D A (dW k b d)) (hS : va_S A H0 H locs) (hA : ∀ q, H0.size ≤ q → A q) : ∀ q, va_A (dW k b d) H.size q → A q := fun q h => by
  rcases h with ⟨i, e, hi⟩ | h
  · exact hD.2 i _ hi
  · exact hA q (Nat.le_trans hS.1 h)
/-- a transaction has become another: so has the desk -/
theorem dW_join {D : va_G} {cl : List vw_C} {A : Nat → Prop} {k : Nat → ClassId} {b : Nat → Nat} {d : xDS} {H H1 : Heap} {j : Nat} {z : xTS} (hj : j < 8) (hP : va_P D cl (dW k b d) H) (hD : va_D A (dW k b d)) (hB : va_P D cl (tW k (yA b j) z) H1)
    (hk : ∀ q : Nat, q < H.size → ¬ va_A (tW k (yA b j) (yT d j)) H.size q → H1[q]? = H[q]?) : va_P D cl (dW k b (yN d, yC d, va_up (yT d) j z, yD d, yS d)) H1 := by
  have old : ∀ (n : Nat) (q : Nat × va_E), (dW k b d)[n]? = some q → (∀ i, i < 8 → n ≠ 4 + 8 * j + i) → va_at D cl q H1 := by
    intro n q hq hne
    have h0 := hP n q hq
    refine h0.kept (hk q.1 h0.lt ?_)
    rintro (⟨i, e, hi⟩ | h)
    · have h1 : i < 8 := (List.getElem?_eq_some_iff.mp hi).1
      exact hne i h1 (hD.1 n (4 + 8 * j + i) q (q.1, e) hq (by rw [dW_at hj h1]; exact hi) rfl)
    · exact absurd h0.lt (Nat.not_lt.mpr h)
  intro n q hq
  rcases dW_ix n with hn | ⟨t, i, ht, hi, rfl⟩ | hn
  · rw [dW_hd hn] at hq
    exact old n q (by rw [dW_hd hn]; exact hq) (fun i _ => by omega)
  · rw [dW_at ht hi] at hq
    by_cases e : t = j
    · subst e
      have hz : yT (yN d, yC d, va_up (yT d) t z, yD d, yS d) t = z := va_up_self _ _ _
      rw [hz] at hq
      exact hB i q hq
    · have hz : yT (yN d, yC d, va_up (yT d) j z, yD d, yS d) t = yT d t := va_up_ne _ _ e
      rw [hz] at hq
      exact old _ q (by rw [dW_at ht hi]; exact hq) (fun i1 h1 => by omega)
  · rw [dW_no hn] at hq; cases hq
/-- what the throwing rows need -/
abbrev xN : List String := ["java/lang/RuntimeException", "java/lang/Exception"]
def xL : List Cond := xs_need "CommitDesk" 39 43 qS xN ++ (xs_need "CommitDesk" 68 72 qU xN ++ (xs_need "CommitDesk" 111 115 qA xN ++ xs_need "CommitDesk" 127 131 qB xN))
def xS8 : List (String × Nat × String) := [("CommitDesk", 41, "the transaction is open"), ("CommitDesk", 70, "the transaction was stale"), ("CommitDesk", 88, "no further part"), ("CommitDesk", 113, "no such what"), ("CommitDesk", 125, "no such transaction"), ("CommitDesk", 129, "no such cell"), ("CommitDesk", 132, "the transaction is not open"), ("CommitDesk", 134, "there is one part")]
theorem xL_all : xL.all (fun w => w.onTables && w.keepsCast) = true := by decide +kernel
theorem xL_S : ∀ w ∈ xs_need "CommitDesk" 39 43 qS xN, w ∈ xL := fun w h => List.mem_append_left _ h
theorem xL_U : ∀ w ∈ xs_need "CommitDesk" 68 72 qU xN, w ∈ xL := fun w h => List.mem_append_right _ (List.mem_append_left _ h)
theorem xL_A : ∀ w ∈ xs_need "CommitDesk" 111 115 qA xN, w ∈ xL := fun w h => List.mem_append_right _ (List.mem_append_right _ (List.mem_append_left _ h))
theorem xL_B : ∀ w ∈ xs_need "CommitDesk" 127 131 qB xN, w ∈ xL := fun w h => List.mem_append_right _ (List.mem_append_right _ (List.mem_append_right _ h))
abbrev xTh (U : State) : Prop := xs_Th xL xS8 U
/-- the start of a method of the desk -/
def dPc (dC : Nat → ClassId) (dI : Nat → Nat → Nat) (k : Nat → ClassId) (b : Nat → Nat) (sz : Nat) (d : xDS) (av : List Value) : Array Value → State → Prop := va_Pc av (fun U => U.heap.size = sz ∧ va_P (dC, dI) vwC (dW k b d) U.heap ∧ va_K (dC, dI) vwC (kT k) U ∧ va_D (fun _ => True) (dW k b d) ∧ xTh U)
def dRc (dC : Nat → ClassId) (dI : Nat → Nat → Nat) (k : Nat → ClassId) (b : Nat → Nat) (d : xDS) (av : List Value) : Array Value → State → Prop := va_Pc av (fun U => va_P (dC, dI) vwC (dW k b d) U.heap ∧ va_K (dC, dI) vwC (kT k) U)
abbrev dB (dC : Nat → ClassId) (dI : Nat → Nat → Nat) (k : Nat → ClassId) (b : Nat → Nat) (d : xDS) (t : State) : Prop := va_P (dC, dI) vwC (dW k b d) t.heap
theorem dPc_blind {dC : Nat → ClassId} {dI : Nat → Nat → Nat} {k : Nat → ClassId} {b : Nat → Nat} {sz : Nat} {d : xDS} {av : List Value} : FrameBlind (dPc dC dI k b sz d av) := fun av U g mk q => by
  obtain ⟨q0, q1, qP, qK, qD, qT⟩ := q
  exact ⟨q0, q1, qP, va_K.moved (u := U) (U := U.calling g mk av) (Vm.Alike.refl U.vm) qK, qD, xs_Th.move (U := U.calling g mk av) xL_all (State.WarmedH.refl U) xs_keep.rf qT⟩
theorem dPc_pre {dC : Nat → ClassId} {dI : Nat → Nat → Nat} {k : Nat → ClassId} {b : Nat → Nat} {d : xDS} {s : State} {H : Heap} {A : Nat → Prop} (As : List Value) (hP : va_P (dC, dI) vwC (dW k b d) H) (hK : va_K (dC, dI) vwC (kT k) s) (hD : va_D A (dW k b d)) (hTh : xTh s) (hkp : xs_keep s.heap H) : PreV s H R_D (b 0) (dPc dC dI k b H.size d (.ref (b 0) :: As)) As :=
  ⟨dPc_blind, va_recv (q0 := 0) (ci := 1) (q := (R_D, F_D, 5)) hK hP rfl rfl, fun U hU hW => ⟨rfl, by rw [hU], by rw [hU]; exact hP, va_K.moved hW.alike hK, hD.weaken (fun _ _ _ _ => trivial), hTh.move xL_all hW (by rw [hU]; exact hkp)⟩⟩
theorem dRc_pre {dC : Nat → ClassId} {dI : Nat → Nat → Nat} {k : Nat → ClassId} {b : Nat → Nat} {d : xDS} {s : State} {H : Heap} (As : List Value) (hP : va_P (dC, dI) vwC (dW k b d) H) (hK : va_K (dC, dI) vwC (kT k) s) : PreV s H R_D (b 0) (dRc dC dI k b d (.ref (b 0) :: As)) As :=
  ⟨fun av U g mk q => by obtain ⟨q0, qP, qK⟩ := q; exact ⟨q0, qP, va_K.moved (u := U) (U := U.calling g mk av) (Vm.Alike.refl U.vm) qK⟩, va_recv (q0 := 0) (ci := 1) (q := (R_D, F_D, 5)) hK hP rfl rfl, fun U hU hW => ⟨rfl, by rw [hU]; exact hP, va_K.moved hW.alike hK⟩⟩
theorem xt_upMQ {below : List Frame} {Qc : Array Value → State → Outcome → State → Prop} {a : Array Value} {s : State} {mc ms mc2 ms2 : Nat} {free : Addr → Prop} {t : State} (h1 : mc ≤ mc2) (h2 : ms ≤ ms2) (h : xt_MQ below Qc a s mc ms free t) : xt_MQ below Qc a s mc2 ms2 free t := by
  obtain ⟨o, a1, a2, a3, L, ⟨a4, a5⟩, a6⟩ := h
  exact ⟨o, a1, a2, a3, L, ⟨a4, a5.mono h1 h2⟩, a6⟩
theorem xt_Is.mv {X : String} {x : Nat} {s t t2 : State} (h : xt_Is X x t) (hh : t2.heap = t.heap) (h1 : s.vm.Alike t.vm) (h2 : s.vm.Alike t2.vm) : xt_Is X x t2 := by
  obtain ⟨cell, e1, e2, e3⟩ := h
  exact ⟨cell, by rw [hh]; exact e1, by rw [h2.findClass, ← h1.findClass]; exact e2, e3⟩
section XF
variable {p : Program} {l : Launch} {e : Env} {R : Room} {s : State} {m : MethodId} {args : Array Value} {below : List Frame} {meth : Method} {c : Code} {H : Heap} {locs : List Loc} {cells slots mc ms : Nat} {Qc : Array Value → State → Outcome → State → Prop} {free : Addr → Prop}
/-- the end by return, with room to spare -/
theorem xt_fin {g : JFrame} (h1 : cells ≤ mc) (h2 : slots ≤ ms) (k : W p l e R s m args below meth c H locs cells slots (MQ below Qc args s cells slots free) g) : W p l e R s m args below meth c H locs cells slots (xt_MQ below Qc args s mc ms free) g := xt_mono (fun _ h => xt_upMQ h1 h2 (xt_of_MQ h)) k
theorem xt_thr {g : JFrame} {c1 s1 : Nat} (h1 : c1 ≤ mc) (h2 : s1 ≤ ms) (k : W p l e R s m args below meth c H locs cells slots (xt_MQ below Qc args s c1 s1 free) g) : W p l e R s m args below meth c H locs cells slots (xt_MQ below Qc args s mc ms free) g := xt_mono (fun _ h => xt_upMQ h1 h2 h) k
theorem xt_thrW {g : JFrame} {x : Addr} (h1 : cells ≤ mc) (h2 : slots ≤ ms) (k : xt_W p l e R s m args below meth c H locs cells slots (xt_MQ below Qc args s cells slots free) g x) : xt_W p l e R s m args below meth c H locs cells slots (xt_MQ below Qc args s mc ms free) g x := fun T hT X => by
  obtain ⟨t, a, b⟩ := k T hT X
  exact ⟨t, a, xt_upMQ h1 h2 b⟩
end XF
end
