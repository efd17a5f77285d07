section
-- ===== PART A: goes FIRST, ahead of the names: the tables' words, and 'selects' of the private methods out of them =====
/-- a private method of a class that the tables say can be made, by its rows of tables_1 -/
def lw_okq (q : MethodName × Nat) : Prop := (q.1.cls ≠ "java/lang/invoke/MethodHandle" ∧ q.1.cls ≠ "java/lang/invoke/VarHandle") ∧ Cond.instantiable q.1.cls q.2 ∈ tables_1 ∧ Cond.privateMethod q.1 ∈ tables_1 ∧ Cond.instanceMethod q.1 ∈ tables_1
theorem lw_p0 : lw_okq (⟨"CommitDesk", "transactionOf", "(I)LCommitDesk$Transaction;"⟩, 5) := ⟨⟨by decide +kernel, by decide +kernel⟩, List.mem_of_getElem? (i := 13) (by decide +kernel), List.mem_of_getElem? (i := 76) (by decide +kernel), List.mem_of_getElem? (i := 77) (by decide +kernel)⟩
theorem lw_p1 : lw_okq (⟨"java/lang/Throwable", "fillInStackTrace", "(I)Ljava/lang/Throwable;"⟩, 6) := ⟨⟨by decide +kernel, by decide +kernel⟩, List.mem_of_getElem? (i := 119) (by decide +kernel), List.mem_of_getElem? (i := 117) (by decide +kernel), List.mem_of_getElem? (i := 118) (by decide +kernel)⟩
theorem lw_p2 : lw_okq (⟨"CommitDesk", "openTransactionAt", "(II)LCommitDesk$Transaction;"⟩, 5) := ⟨⟨by decide +kernel, by decide +kernel⟩, List.mem_of_getElem? (i := 13) (by decide +kernel), List.mem_of_getElem? (i := 182) (by decide +kernel), List.mem_of_getElem? (i := 183) (by decide +kernel)⟩
theorem lw_p3 : lw_okq (⟨"CommitDesk", "requireCell", "(I)V"⟩, 5) := ⟨⟨by decide +kernel, by decide +kernel⟩, List.mem_of_getElem? (i := 13) (by decide +kernel), List.mem_of_getElem? (i := 186) (by decide +kernel), List.mem_of_getElem? (i := 187) (by decide +kernel)⟩
theorem lw_p4 : lw_okq (⟨"CommitDesk", "openTransactionOf", "(I)LCommitDesk$Transaction;"⟩, 5) := ⟨⟨by decide +kernel, by decide +kernel⟩, List.mem_of_getElem? (i := 13) (by decide +kernel), List.mem_of_getElem? (i := 206) (by decide +kernel), List.mem_of_getElem? (i := 207) (by decide +kernel)⟩
theorem lw_p5 : lw_okq (⟨"CommitDesk", "endStale", "(LCommitDesk$Transaction;)V"⟩, 5) := ⟨⟨by decide +kernel, by decide +kernel⟩, List.mem_of_getElem? (i := 13) (by decide +kernel), List.mem_of_getElem? (i := 226) (by decide +kernel), List.mem_of_getElem? (i := 227) (by decide +kernel)⟩
theorem lw_p6 : lw_okq (⟨"CommitDesk$Transaction", "putInPart", "(IIJ)V"⟩, 6) := ⟨⟨by decide +kernel, by decide +kernel⟩, List.mem_of_getElem? (i := 22) (by decide +kernel), List.mem_of_getElem? (i := 265) (by decide +kernel), List.mem_of_getElem? (i := 266) (by decide +kernel)⟩
theorem lw_p7 : lw_okq (⟨"CommitDesk", "transactionWithSeveralParts", "(I)LCommitDesk$Transaction;"⟩, 5) := ⟨⟨by decide +kernel, by decide +kernel⟩, List.mem_of_getElem? (i := 13) (by decide +kernel), List.mem_of_getElem? (i := 292) (by decide +kernel), List.mem_of_getElem? (i := 293) (by decide +kernel)⟩
theorem lw_p8 : lw_okq (⟨"CommitDesk", "change", "(IJ)V"⟩, 5) := ⟨⟨by decide +kernel, by decide +kernel⟩, List.mem_of_getElem? (i := 13) (by decide +kernel), List.mem_of_getElem? (i := 320) (by decide +kernel), List.mem_of_getElem? (i := 321) (by decide +kernel)⟩
theorem lw_p9 : lw_okq (⟨"CommitDesk", "openTotal", "()I"⟩, 5) := ⟨⟨by decide +kernel, by decide +kernel⟩, List.mem_of_getElem? (i := 13) (by decide +kernel), List.mem_of_getElem? (i := 385) (by decide +kernel), List.mem_of_getElem? (i := 386) (by decide +kernel)⟩
theorem lw_p10 : lw_okq (⟨"CommitDeskModel", "fails", "(ZI)Z"⟩, 11) := ⟨⟨by decide +kernel, by decide +kernel⟩, List.mem_of_getElem? (i := 389) (by decide +kernel), List.mem_of_getElem? (i := 445) (by decide +kernel), List.mem_of_getElem? (i := 446) (by decide +kernel)⟩
theorem lw_p11 : lw_okq (⟨"CommitDeskModel", "last", "(II)I"⟩, 11) := ⟨⟨by decide +kernel, by decide +kernel⟩, List.mem_of_getElem? (i := 389) (by decide +kernel), List.mem_of_getElem? (i := 449) (by decide +kernel), List.mem_of_getElem? (i := 450) (by decide +kernel)⟩
theorem lw_p12 : lw_okq (⟨"CommitDeskModel", "isStale", "(I)Z"⟩, 11) := ⟨⟨by decide +kernel, by decide +kernel⟩, List.mem_of_getElem? (i := 389) (by decide +kernel), List.mem_of_getElem? (i := 461) (by decide +kernel), List.mem_of_getElem? (i := 462) (by decide +kernel)⟩
theorem lw_p13 : lw_okq (⟨"CommitDeskModel", "copy", "(II)V"⟩, 11) := ⟨⟨by decide +kernel, by decide +kernel⟩, List.mem_of_getElem? (i := 389) (by decide +kernel), List.mem_of_getElem? (i := 473) (by decide +kernel), List.mem_of_getElem? (i := 474) (by decide +kernel)⟩
theorem lw_p14 : lw_okq (⟨"CommitDeskModel", "change", "(IJ)V"⟩, 11) := ⟨⟨by decide +kernel, by decide +kernel⟩, List.mem_of_getElem? (i := 389) (by decide +kernel), List.mem_of_getElem? (i := 489) (by decide +kernel), List.mem_of_getElem? (i := 490) (by decide +kernel)⟩
def lw_privs_1 : List (MethodName × Nat) := [(⟨"CommitDesk", "transactionOf", "(I)LCommitDesk$Transaction;"⟩, 5), (⟨"java/lang/Throwable", "fillInStackTrace", "(I)Ljava/lang/Throwable;"⟩, 6), (⟨"CommitDesk", "openTransactionAt", "(II)LCommitDesk$Transaction;"⟩, 5), (⟨"CommitDesk", "requireCell", "(I)V"⟩, 5), (⟨"CommitDesk", "openTransactionOf", "(I)LCommitDesk$Transaction;"⟩, 5), (⟨"CommitDesk", "endStale", "(LCommitDesk$Transaction;)V"⟩, 5), (⟨"CommitDesk$Transaction", "putInPart", "(IIJ)V"⟩, 6), (⟨"CommitDesk", "transactionWithSeveralParts", "(I)LCommitDesk$Transaction;"⟩, 5), (⟨"CommitDesk", "change", "(IJ)V"⟩, 5), (⟨"CommitDesk", "openTotal", "()I"⟩, 5), (⟨"CommitDeskModel", "fails", "(ZI)Z"⟩, 11), (⟨"CommitDeskModel", "last", "(II)I"⟩, 11), (⟨"CommitDeskModel", "isStale", "(I)Z"⟩, 11), (⟨"CommitDeskModel", "copy", "(II)V"⟩, 11), (⟨"CommitDeskModel", "change", "(IJ)V"⟩, 11)]
theorem lw_r1 : ∀ q ∈ lw_privs_1, lw_okq q := List.forall_mem_cons.mpr ⟨lw_p0, List.forall_mem_cons.mpr ⟨lw_p1, List.forall_mem_cons.mpr ⟨lw_p2, List.forall_mem_cons.mpr ⟨lw_p3, List.forall_mem_cons.mpr ⟨lw_p4, List.forall_mem_cons.mpr ⟨lw_p5, List.forall_mem_cons.mpr ⟨lw_p6, List.forall_mem_cons.mpr ⟨lw_p7, List.forall_mem_cons.mpr ⟨lw_p8, List.forall_mem_cons.mpr ⟨lw_p9, List.forall_mem_cons.mpr ⟨lw_p10, List.forall_mem_cons.mpr ⟨lw_p11, List.forall_mem_cons.mpr ⟨lw_p12, List.forall_mem_cons.mpr ⟨lw_p13, List.forall_mem_cons.mpr ⟨lw_p14, fun _ h => absurd h List.not_mem_nil⟩⟩⟩⟩⟩⟩⟩⟩⟩⟩⟩⟩⟩⟩⟩
def lw_privs : List (MethodName × Nat) := lw_privs_1
def lw_tbl : List Cond := k2_sels lw_privs ++ tables_1
theorem lw_privs_ok : ∀ q ∈ lw_privs, lw_okq q := lw_r1
end
section
/-! Methods that may throw: a contract whose outcome is free, the call of such a method (both outcomes), the way out of a method that doesn't catch, the throw of a new object, the catch in a table of handlers. -/
section XT0
def xt_End (st t : State) (L : List Loc) (k n : Nat) : Prop := st.WarmedH t.vm ∧ st.sameButNew ({ t with vm := st.vm } : State) L k n
/-- the contract of a method that may throw: as Met, but the outcome may be of either kind -/
def xt_Met (l : Launch) (y : MethodName) (ws : List Cond) (rm : Room) (Pc : Array Value → State → Prop) (Qc : Array Value → State → Outcome → State → Prop) (mc ms : Nat) (free : Addr → Prop) : Prop :=
  MetFree l y (headSpec ws rm) Pc (fun _ _ _ _ _ => True) (fun a st o t => Qc a st o t ∧ ∃ L, xt_End st t L mc ms ∧ ∀ q ∈ L, free q.base)
def xt_MQ (below : List Frame) (Qc : Array Value → State → Outcome → State → Prop) (a : Array Value) (s : State) (mc ms : Nat) (free : Addr → Prop) : State → Prop := fun t =>
  ∃ o, t.status = .running ∧ Ended t below o ∧ Qc a s o t ∧ ∃ L, xt_End s t L mc ms ∧ ∀ q ∈ L, free q.base
theorem xt_of_MQ {below : List Frame} {Qc : Array Value → State → Outcome → State → Prop} {a : Array Value} {s : State} {mc ms : Nat} {free : Addr → Prop} {t : State} (h : MQ below Qc a s mc ms free t) : xt_MQ below Qc a s mc ms free t := by
  obtain ⟨o, h1, h2, h3, L, ⟨-, h4, h5⟩, h6⟩ := h
  exact ⟨o, h1, h2, h3, L, ⟨h4, h5⟩, h6⟩
end XT0
section XT1
variable {p : Program} {l : Launch} {e : Env} {R : Room} {s : State} {m : MethodId} {args : Array Value} {below : List Frame} {meth : Method} {c : Code} {H : Heap} {locs : List Loc} {cells slots : Nat} {Q : State → Prop}
theorem xt_mono {Q2 : State → Prop} {g : JFrame} (h : ∀ t, Q t → Q2 t) (k : W p l e R s m args below meth c H locs cells slots Q g) : W p l e R s m args below meth c H locs cells slots Q2 g := by
  intro T hT X
  obtain ⟨t, a, b⟩ := k T hT X
  exact ⟨t, a, h t b⟩
/-- an end by return, in a method that may throw -/
theorem xt_ret {Qc : Array Value → State → Outcome → State → Prop} {free : Addr → Prop} {g : JFrame} (k : W p l e R s m args below meth c H locs cells slots (MQ below Qc args s cells slots free) g) : W p l e R s m args below meth c H locs cells slots (xt_MQ below Qc args s cells slots free) g := xt_mono (fun _ h => xt_of_MQ h) k
theorem xt_ofW {y : MethodName} {ws ws' : List Cond} {rm : Room} {Pc : Array Value → State → Prop} {Qc : Array Value → State → Outcome → State → Prop} {mc ms : Nat} {free : Addr → Prop} {cc : ByteArray} {maxL : Nat} {ret : Option FieldType}
    (hy : plainName y.cls = true) (hw : ws = Cond.code y cc maxL ret :: ws')
    (body : ∀ p e s m args below meth c s₁, BodyLoose p l y (headSpec ws rm) cc maxL ret e s m args below meth c s₁ → c.maxLocals = maxL → (∀ x ∈ c.exceptionTable.toList, ∀ pc : Nat, covers x pc = false) → Pc args s →
      W p l e (headSpec ws rm).room s m args below meth c s.heap [] 0 0 (xt_MQ below Qc args s mc ms free) (entryFrame m args maxL)) : xt_Met l y ws rm Pc Qc mc ms free := by
  have hmem : Cond.code y cc maxL ret ∈ ws := by rw [hw]; exact List.mem_cons_self
  refine MetFree.of_bodyS (code := cc) (maxLocals := maxL) (ret := ret) hy ?_ ?_
  · intro args s m h hn
    obtain ⟨mY, cY, h1, h2, h3, h4, h5, h6, -, -⟩ := Cond.code_spec hn (atoms_spec (ws := ws) h _ hmem)
    exact ⟨mY, cY, h1, h2, h3, h4, h5, h6⟩
  · intro p e s m args below meth c s₁ B hml hP _
    have hempty := B.noHandlers (atoms_spec (ws := ws) B.pre _ hmem)
    have hnil : c.exceptionTable.toList = [] := by
      have h0 : c.exceptionTable.size = 0 := by simpa [Array.isEmpty] using hempty
      exact List.eq_nil_of_length_eq_zero (by simpa using h0)
    have hh0 : s₁.heap = s.heap := by rw [B.state]; rfl
    obtain ⟨t, a1, o, b1, b2, b3⟩ := body p e s m args below meth c s₁ B hml (fun x hx => by rw [hnil] at hx; cases hx) hP s₁ hh0 (Stand.of_body B)
    exact ⟨t, o, a1, b1, b2, ⟨b3.1, b3.2⟩⟩
/-- how a call goes on: behind the call, or with the thrown object over the caller's frame -/
def xt_Go (p : Program) (e : Env) (below : List Frame) (S T2 : State) (g : JFrame) (len : Nat) : Outcome → Prop
  | .returned v => Steps p.tables e below S (T2.setTop { g with pc := g.pc + len, stack := v.toList ++ g.stack })
  | .threw x => Steps p.tables e below S ((T2.setTop g).pushFrame (.throwing x))
theorem xt_call {y : MethodName} {ws : List Cond} {rm : Room} {Pc : Array Value → State → Prop} {Qc : Array Value → State → Outcome → State → Prop} {mc ms maxL len : Nat} {free : Addr → Prop}
    (hM : xt_Met l y ws rm Pc Qc mc ms free) (hbl : FrameBlind Pc) (hrc : rm.cells = mc) (hrs : rm.slots = ms) (hfr : rm.frames + 1 ≤ R.frames) (hlo : 8 + (maxL + 11) + rm.locals ≤ R.locals)
    (hws : ∀ w ∈ ws, ∀ (a' : Array Value) (U : State), s.WarmedH U.vm → w.before a' U = true)
    (hcd : ∀ (U : State) (mk : MethodId), s.WarmedH U.vm → U.methodNamed? y = some mk → ∃ (mY : Method) (cY : Code), U.vm.method? mk = some mY ∧ mY.code = some cY ∧ cY.maxLocals = maxL)
    (hini : ∀ (a' : Array Value) (U : State), s.WarmedH U.vm → (Cond.initialized y.cls).before a' U = true)
    {T : State} (X : Stand p l e R s m args below meth c T locs cells slots) {g : JFrame} (hg : g.method = m) (hsize : g.locals.size = c.maxLocals) {ig : Instr} (hdg : decode c.code g.pc = .ok (ig, len))
    (hW : 2 * g.monitorRoom + (g.stack.map fun v => v.category).sum ≤ 8) {mk : MethodId} (hn : T.methodNamed? y = some mk) {a : Array Value} (hcells : cells + mc ≤ R.cells) (hslots : slots + ms ≤ R.slots) (hP : Pc a T) :
    ∃ (o : Outcome) (t T2 : State) (L : List Loc), Stand p l e R s m args below meth c T2 (locs ++ L) (cells + mc) (slots + ms) ∧ (∀ q ∈ L, free q.base) ∧ T2.heap = t.heap ∧ T2.vm = t.vm ∧ Qc a (T.calling g mk a) o t ∧
      xt_Go p e below (doInvoke e (T.setTop g) [] mk a).1 T2 g len o := by
  obtain ⟨mY, cY, hmY, hcY, hlY⟩ := hcd T mk X.warmed hn
  obtain ⟨kY, hkY, -⟩ := className_of_methodNamed hn
  have hinitY : kY.init = .initialized := Cond.initialized_spec (findClass_of_methodNamed hn) hkY (hini a T X.warmed)
  have h : At T g.method c below := by rw [hg]; exact X.here
  have hc1 : cells + (headSpec ws rm).room.cells ≤ R.cells := by show cells + rm.cells ≤ R.cells; omega
  have hs1 : slots + (headSpec ws rm).room.slots ≤ R.slots := by show slots + rm.slots ≤ R.slots; omega
  have hl1 : 2 * g.monitorRoom + (g.stack.map fun v => v.category).sum + (cY.maxLocals + 11) + (headSpec ws rm).room.locals ≤ R.locals := by
    show 2 * g.monitorRoom + (g.stack.map fun v => v.category).sum + (cY.maxLocals + 11) + rm.locals ≤ R.locals
    rw [hlY]; omega
  have happ : (headSpec ws rm).appliesLoose y e.platform (T.calling g mk a) = true :=
    Spec.appliesLoose_calling (g := g) h hdg hn hkY hinitY
      (X.room_calling (g := g) (R' := (headSpec ws rm).room) hsize hmY hcY hfr hl1 hc1 hs1) (atoms_intro fun w hw => hws w hw _ _ X.warmed)
  obtain ⟨mid, hmid⟩ := h.above
  have hfr2 : (T.setTop g).frames = (.java g :: mid) ++ below := by rw [State.frames_setTop' g h.top, hmid]; rfl
  obtain ⟨o, s₂, hsteps, -, hend, hq0⟩ := Steps.callFree hM p X.admits X.cas X.clock (acts := []) hfr2 happ (hbl _ _ _ _ hP) trivial
  have hq1 : Qc a (T.calling g mk a) o s₂ ∧ ∃ L, xt_End (T.calling g mk a) s₂ L mc ms ∧ ∀ q ∈ L, free q.base := hq0
  obtain ⟨hq', L, ⟨hW₂, e2, q2, q3, q4, q5, q6⟩, hL⟩ := hq1
  rw [State.frames_setTop' g h.top] at hend
  have e3 : s₂ = ({ (T.calling g mk a).setFrames s₂.frames with heap := s₂.heap, slotsUsed := s₂.slotsUsed } : State).setVm s₂.vm := by
    have h9 : s₂ = ({ s₂ with vm := (T.calling g mk a).vm } : State).setVm s₂.vm := rfl
    rw [e2] at h9
    exact h9
  have hW' : T.WarmedH s₂.vm := hW₂
  obtain ⟨g₀, hg0⟩ := Option.isSome_iff_exists.mp h.top
  obtain ⟨r, hr⟩ := State.topJava?_eq_some.mp hg0
  have hr' : (({ T with heap := s₂.heap, slotsUsed := s₂.slotsUsed } : State).setVm s₂.vm).frames = .java g₀ :: r := hr
  have hsame : T.sameButNew ({ T with heap := s₂.heap, slotsUsed := s₂.slotsUsed } : State) L mc ms := by
    refine ⟨?_, q2, q3, q4, q5, q6⟩
    obtain ⟨t, ht, -⟩ := State.frames_cons hr
    show ({ T with heap := s₂.heap, slotsUsed := s₂.slotsUsed } : State) = { T.setFrames T.frames with heap := s₂.heap, slotsUsed := s₂.slotsUsed }
    rw [State.setFrames_self ht]
  subst hg
  refine ⟨o, s₂, ({ T with heap := s₂.heap, slotsUsed := s₂.slotsUsed } : State).setVm s₂.vm, L,
    ⟨X.admits, X.cas, X.clock, X.frames, X.room, X.hears, X.method, X.code, (X.here.setHeapUsed s₂.heap s₂.slotsUsed).setVm hW'.alike, X.tail, State.WarmedH.trans X.warmed hW', X.limits, X.bytes, X.same.trans (hsame.setVm s.vm)⟩, hL, rfl, rfl, hq', ?_⟩
  cases o with
  | returned v =>
    obtain ⟨c₂, i₂, len₂, hc₂, hd₂, hf₂⟩ := hend
    have hcc : c₂ = c := by
      have h1 : s₂.code? g.method = T.code? g.method := by
        rw [State.code?_eq, State.code?_eq, hW'.alike.method?]
      exact Option.some.inj (hc₂.symm.trans (h1.trans h.code))
    subst hcc
    have hlen : len₂ = len := by rw [hdg] at hd₂; cases hd₂; rfl
    subst hlen
    have hs₂ : s₂ = (({ T with heap := s₂.heap, slotsUsed := s₂.slotsUsed } : State).setVm s₂.vm).setTop { g with pc := g.pc + len₂, stack := v.toList ++ g.stack } := by
      refine e3.trans ?_
      rw [hf₂, State.calling_eq h.top, State.setFrames_setFrames, State.setTop_of_frames _ hr', hr]
      rfl
    show Steps p.tables e below _ ((({ T with heap := s₂.heap, slotsUsed := s₂.slotsUsed } : State).setVm s₂.vm).setTop { g with pc := g.pc + len₂, stack := v.toList ++ g.stack })
    rw [← hs₂]
    exact hsteps
  | threw x =>
    have hf₂ : s₂.frames = .throwing x :: .java g :: T.frames.tail := hend
    have hs₂ : s₂ = ((({ T with heap := s₂.heap, slotsUsed := s₂.slotsUsed } : State).setVm s₂.vm).setTop g).pushFrame (.throwing x) := by
      refine e3.trans ?_
      rw [hf₂, State.calling_eq h.top, State.setFrames_setFrames, State.pushFrame, State.frames_setTop _ hr', State.setTop_of_frames _ hr', State.setFrames_setFrames, hr]
      rfl
    show Steps p.tables e below _ (((({ T with heap := s₂.heap, slotsUsed := s₂.slotsUsed } : State).setVm s₂.vm).setTop g).pushFrame (.throwing x))
    rw [← hs₂]
    exact hsteps
/-- behind a call at the frame g: with both outcomes -/
def xt_On (p : Program) (e : Env) (below : List Frame) (T : State) (g : JFrame) (T2 : State) (rest : List Value) : Outcome → Prop
  | .returned v => Goes p e below T g T2 { g with pc := g.pc + 3, stack := v.toList ++ rest }
  | .threw x => ∀ target, Steps p.tables e below ((T2.setTop { g with stack := rest }).pushFrame (.throwing x)) target → Steps p.tables e below (T.setTop g) target
def xt_Run (p : Program) (l : Launch) (e : Env) (R : Room) (s : State) (m : MethodId) (args : Array Value) (below : List Frame) (meth : Method) (c : Code) (H : Heap) (locs : List Loc) (cells slots mc ms : Nat) (g : JFrame) (rest : List Value) (Qa : State → Outcome → State → Prop) (free : Addr → Prop) : Prop :=
  ∀ T : State, T.heap = H → Stand p l e R s m args below meth c T locs cells slots → ∃ (o : Outcome) (st₀ t T2 : State) (L : List Loc), st₀.heap = H ∧ Stand p l e R s m args below meth c T2 (locs ++ L) (cells + mc) (slots + ms) ∧ (∀ q ∈ L, free q.base) ∧ T2.heap = t.heap ∧ T2.vm = t.vm ∧ Qa st₀ o t ∧ xt_On p e below T g T2 rest o
end XT1
section XT2
variable {p : Program} {l : Launch} {e : Env} {R : Room} {s : State} {m : MethodId} {args : Array Value} {below : List Frame} {meth : Method} {c : Code} {H : Heap} {locs : List Loc} {cells slots : Nat} {Q : State → Prop}
variable {y : MethodName} {bytes cc : ByteArray} {maxL nL mc ms n index : Nat} {ret : Option FieldType} {ws : List Cond} {rm : Room} {Pc : Array Value → State → Prop} {Qc : Array Value → State → Outcome → State → Prop} {free : Addr → Prop} {Ts : List Cond} {own C host : String} {b : Addr} {As rest : List Value} {g : JFrame}
theorem xt_ini {cl : String} (hini : (Cond.initialized cl).before args s = true) : ∀ (a' : Array Value) (U : State), s.WarmedH U.vm → (Cond.initialized cl).before a' U = true := fun a' U hW => word_at hW (Or.inl (by first | rfl | simp [Cond.onTables, Cond.keeps, Cond.steady])) hini
theorem xt_cd (hws : ∀ w ∈ ws, ∀ (a' : Array Value) (U : State), s.WarmedH U.vm → w.before a' U = true) (hcw : Cond.code y bytes maxL ret ∈ ws) : ∀ (U : State) (mk : MethodId), s.WarmedH U.vm → U.methodNamed? y = some mk → ∃ (mY : Method) (cY : Code), U.vm.method? mk = some mY ∧ mY.code = some cY ∧ cY.maxLocals = maxL := fun U mk hW hn => by
  obtain ⟨mY, cY, h1, h2, -, h3, -⟩ := Cond.code_spec hn (hws _ hcw #[] U hW)
  exact ⟨mY, cY, h1, h2, h3⟩
/-- invokevirtual of a method that may throw -/
theorem xt_runV (S : CallFix p m c cc nL s args Ts own) (hM : xt_Met l y ws rm Pc Qc mc ms free) (cw : CallW R s args own C index y bytes maxL ret ws rm mc ms n) (hp : PreV s H C b Pc As)
    (hg : g.method = m) (hn : As.length = n) (hsize : g.locals.size = nL) (hstack : g.stack = As.reverse ++ .ref b :: rest) (hW : 2 * g.monitorRoom + (rest.map fun v => v.category).sum ≤ 8) (hdg : decode cc g.pc = .ok (.invokevirtual index, 3)) (hf : cells + mc ≤ R.cells ∧ slots + ms ≤ R.slots) :
    xt_Run p l e R s m args below meth c H locs cells slots mc ms g rest (Qc (Value.ref b :: As).toArray) free := by
  obtain ⟨⟨hrc, hrs, hfr, hlo, hws, hcw, hcode, hini, hy, hlen, hl⟩, hinst, hsel⟩ := cw
  obtain ⟨hx, hb, hml, ho, -⟩ := S
  obtain ⟨hbl, ⟨cellB, hcB, hoB, hclB⟩, hPc⟩ := hp
  intro T hT X
  obtain ⟨mk, methM, hnamed, hmethM, hstM, habM⟩ := Cond.instanceMethod_spec hinst
  obtain ⟨methM', cM, hmethM', -, -, -, -, -, -, hsigM⟩ := Cond.code_spec hnamed hcode
  cases hmethM.symm.trans hmethM'
  obtain ⟨c2, r2, m2, q1, q2, q3, q4, kP, hkP, hkPi⟩ := Cond.selects_spec hsel
  cases hclB.symm.trans q1
  cases (State.methodFound?_of_named hnamed hy).symm.trans q2
  cases hnamed.symm.trans q3
  have hselP : selectMethod e.platform s.vm cellB.cls mk = .method mk := by rw [Launch.admits_selectMethod X.admits]; exact q4
  obtain ⟨vm₁, X₁, hstep₁⟩ := X.invokevirtual hx ho hl hnamed hmethM hstM hkP hkPi hy (a := b) (cell := cellB) (by rw [hT]; exact hcB)
    (fun z h => by rw [h] at hoB; cases hoB) hselP hmethM habM hkP hkPi (g := g) hg (argsL := As) (rest := rest) (hn.trans (hlen _ hsigM)) hstack (by rw [hb]; exact hdg)
  obtain ⟨o, t, T2, L, X', hL, e1, e2, hq, hgo⟩ := xt_call hM hbl hrc hrs hfr hlo hws (xt_cd hws hcw) (xt_ini hini) X₁ (g := { g with stack := rest }) hg (hsize.trans hml.symm) (ig := .invokevirtual index) (len := 3) (by rw [hb]; exact hdg) hW (X₁.named hnamed) (a := (Value.ref b :: As).toArray) hf.1 hf.2 (hPc (T.setVm vm₁) hT X₁.warmed)
  refine ⟨o, (T.setVm vm₁).calling { g with stack := rest } mk (Value.ref b :: As).toArray, t, T2, L, hT, X', hL, e1, e2, hq, ?_⟩
  cases o with
  | returned v => exact fun target h => hstep₁ _ fun acts => by rw [doInvoke_state]; exact Steps.trans hgo h
  | threw x => exact fun target h => hstep₁ _ fun acts => by rw [doInvoke_state]; exact Steps.trans hgo h
/-- the same of a nest mate's private method -/
theorem xt_runVN (S : CallFix p m c cc nL s args Ts own) (hM : xt_Met l y ws rm Pc Qc mc ms free) (cw : va_CN R s args own index y host bytes maxL ret ws rm mc ms n ∧ (Cond.instanceMethod y).before args s = true ∧ (Cond.selects C y y).before args s = true) (hp : PreV s H C b Pc As)
    (hg : g.method = m) (hn : As.length = n) (hsize : g.locals.size = nL) (hstack : g.stack = As.reverse ++ .ref b :: rest) (hW : 2 * g.monitorRoom + (rest.map fun v => v.category).sum ≤ 8) (hdg : decode cc g.pc = .ok (.invokevirtual index, 3)) (hf : cells + mc ≤ R.cells ∧ slots + ms ≤ R.slots) :
    xt_Run p l e R s m args below meth c H locs cells slots mc ms g rest (Qc (Value.ref b :: As).toArray) free := by
  obtain ⟨⟨⟨hrc, hrs, hfr, hlo, hws, hcw⟩, hcode, hini, hy, hlen, hl⟩, hinst, hsel⟩ := cw
  obtain ⟨hx, hb, hml, ho, -⟩ := S
  obtain ⟨hbl, ⟨cellB, hcB, hoB, hclB⟩, hPc⟩ := hp
  intro T hT X
  obtain ⟨mk, methM, hnamed, hmethM, hstM, habM⟩ := Cond.instanceMethod_spec hinst
  obtain ⟨methM', cM, hmethM', -, -, -, -, -, -, hsigM⟩ := Cond.code_spec hnamed hcode
  cases hmethM.symm.trans hmethM'
  obtain ⟨c2, r2, m2, q1, q2, q3, q4, kP, hkP, hkPi⟩ := Cond.selects_spec hsel
  cases hclB.symm.trans q1
  cases (State.methodFound?_of_named hnamed hy).symm.trans q2
  cases hnamed.symm.trans q3
  have hselP : selectMethod e.platform s.vm cellB.cls mk = .method mk := by rw [Launch.admits_selectMethod X.admits]; exact q4
  obtain ⟨vm₁, X₁, hstep₁⟩ := X.invokevirtualNest hx ho hl hnamed hmethM hstM hkP hkPi hy (a := b) (cell := cellB) (by rw [hT]; exact hcB)
    (fun z h => by rw [h] at hoB; cases hoB) hselP hmethM habM hkP hkPi (g := g) hg (argsL := As) (rest := rest) (hn.trans (hlen _ hsigM)) hstack (by rw [hb]; exact hdg)
  obtain ⟨o, t, T2, L, X', hL, e1, e2, hq, hgo⟩ := xt_call hM hbl hrc hrs hfr hlo hws (xt_cd hws hcw) (xt_ini hini) X₁ (g := { g with stack := rest }) hg (hsize.trans hml.symm) (ig := .invokevirtual index) (len := 3) (by rw [hb]; exact hdg) hW (X₁.named hnamed) (a := (Value.ref b :: As).toArray) hf.1 hf.2 (hPc (T.setVm vm₁) hT X₁.warmed)
  refine ⟨o, (T.setVm vm₁).calling { g with stack := rest } mk (Value.ref b :: As).toArray, t, T2, L, hT, X', hL, e1, e2, hq, ?_⟩
  cases o with
  | returned v => exact fun target h => hstep₁ _ fun acts => by rw [doInvoke_state]; exact Steps.trans hgo h
  | threw x => exact fun target h => hstep₁ _ fun acts => by rw [doInvoke_state]; exact Steps.trans hgo h
/-- the walk with an object being thrown over the frame g -/
def xt_W (p : Program) (l : Launch) (e : Env) (R : Room) (s : State) (m : MethodId) (args : Array Value) (below : List Frame) (meth : Method) (c : Code) (H : Heap) (locs : List Loc) (cells slots : Nat) (Q : State → Prop) (g : JFrame) (x : Addr) : Prop :=
  ∀ T : State, T.heap = H → Stand p l e R s m args below meth c T locs cells slots → ∃ t, Steps p.tables e below ((T.setTop g).pushFrame (.throwing x)) t ∧ Q t
/-- out of a method that doesn't catch here -/
theorem xt_out {x : Addr} {pc : Nat} {ls : Array Slot} {st : List Value} (hout : ∀ z ∈ c.exceptionTable.toList, ∀ pc : Nat, covers z pc = false) (hq : ∀ t : State, t.heap = H → s.WarmedH t.vm → Qc args s (.threw x) t) (hf : ∀ q ∈ locs, free q.base) (hlocks : meth.locks = false) :
    xt_W p l e R s m args below meth c H locs cells slots (xt_MQ below Qc args s cells slots free) (F0 m pc ls st) x := by
  intro T hT X
  obtain ⟨h1, h2, h3, h4, h5⟩ := X.leaveThrown x (g := F0 m pc ls st) rfl rfl rfl (fun z hz => hout z hz _) hlocks
  exact ⟨_, h1, .threw x, h2, h3, hq _ hT h4, locs, ⟨h4, h5⟩, hf⟩
/-- what a contract of a method that may throw says at its end: the value that is returned, or the class of what is thrown -/
def xt_Is (X : String) (a : Nat) (t : State) : Prop := ∃ cell : Cell, t.heap[a]? = some cell ∧ t.vm.findClass X = some cell.cls ∧ cell.vm = .none
def xt_Q {S : Type} (ret : Option Value → S → Prop) (thr : String → S → Prop) (B : S → State → Prop) (A : Nat → Prop) : Array Value → State → Outcome → State → Prop := fun _ st oc t =>
  ((∃ (v : Option Value) (u : S), oc = .returned v ∧ ret v u ∧ B u t) ∨ (∃ (X : String) (a : Nat) (u : S), oc = .threw a ∧ thr X u ∧ B u t ∧ xt_Is X a t ∧ st.heap.size ≤ a)) ∧ va_F A st t
theorem xt_cont {S : Type} {ret : Option Value → S → Prop} {thr : String → S → Prop} {B : S → State → Prop} {A0 A1 : Nat → Prop} {H0 : Heap} {a : Array Value} {pc : Nat} {ls : Array Slot} {st0 : List Value}
    (hr : xt_Run p l e R s m args below meth c H locs cells slots mc ms (F0 m pc ls st0) rest (xt_Q ret thr B A1 a) free) (hS : va_S A0 H0 H locs) (hA : ∀ q, q < H.size → A1 q → A0 q) (hf : ∀ q, free q → A0 q)
    (kk : ∀ (v : Option Value) (u : S) (t : State) (H1 : Heap) (locs1 : List Loc), t.heap = H1 → s.vm.Alike t.vm → ret v u → B u t → H.size ≤ H1.size → (∀ q : Nat, q < H.size → ¬ A1 q → H1[q]? = H[q]?) → va_S A0 H0 H1 locs1 → W p l e R s m args below meth c H1 locs1 (cells + mc) (slots + ms) Q (F0 m (pc + 3) ls (v.toList ++ rest)))
    (kt : ∀ (X : String) (x : Nat) (u : S) (t : State) (H1 : Heap) (locs1 : List Loc), t.heap = H1 → s.vm.Alike t.vm → thr X u → B u t → xt_Is X x t → H.size ≤ x → H.size ≤ H1.size → (∀ q : Nat, q < H.size → ¬ A1 q → H1[q]? = H[q]?) → va_S A0 H0 H1 locs1 → xt_W p l e R s m args below meth c H1 locs1 (cells + mc) (slots + ms) Q (F0 m pc ls rest) x) :
    W p l e R s m args below meth c H locs cells slots Q (F0 m pc ls st0) := by
  intro T hT X
  obtain ⟨o, st₀, t, T2, L, h0, X', hL, e1, e2, ⟨hq, hz, hk⟩, st⟩ := hr T hT X
  rw [h0] at hz hk
  have hal : s.vm.Alike t.vm := by rw [← e2]; exact X'.warmed.alike
  have hz1 : H.size ≤ T2.heap.size := by rw [e1]; exact hz
  have hk1 : ∀ q : Nat, q < H.size → ¬ A1 q → T2.heap[q]? = H[q]? := fun q h1 h2 => by rw [e1]; exact hk q h1 h2
  have hS1 : va_S A0 H0 T2.heap (locs ++ L) := ⟨Nat.le_trans hS.1 hz1, fun q h1 h2 => by rw [hk1 q (Nat.lt_of_lt_of_le h1 hS.1) (fun z => h2 (hA q (Nat.lt_of_lt_of_le h1 hS.1) z))]; exact hS.2.1 q h1 h2, fun q hq => by
      rcases List.mem_append.mp hq with h | h
      · exact hS.2.2 q h
      · exact hf _ (hL q h)⟩
  rcases hq with ⟨v, u, rfl, hp, hb⟩ | ⟨Xn, x, u, rfl, hp, hb, hi, hx⟩
  · obtain ⟨t2, a1, b1⟩ := kk v u t T2.heap (locs ++ L) e1.symm hal hp hb hz1 hk1 hS1 T2 rfl X'
    exact ⟨t2, st t2 a1, b1⟩
  · obtain ⟨t2, a1, b1⟩ := kt Xn x u t T2.heap (locs ++ L) e1.symm hal hp hb hi (by rw [← h0]; exact hx) hz1 hk1 hS1 T2 rfl X'
    exact ⟨t2, st t2 a1, b1⟩
end XT2
end
section
/-! What a throw of a new object asks of the tables and of Throwable's statics, and the row for new; dup; ldc; invokespecial; athrow. -/
section XS0
theorem xs_at {w : Cond} (h : (w.onTables && w.keepsCast) = true) {A A' : Array Value} {s U : State} (hW : s.WarmedH U.vm) (hb : w.before A s = true) : w.before A' U = true := by
  simp only [Bool.and_eq_true] at h
  exact va_tabs h.1 (rfl : (s.setVm U.vm).vm = U.vm) (Cond.before_shiftedCast (State.Shifted.of_warmed hW) w h.2 hb)
/-- a static field of reference type: where it lies, and that it holds a reference or null -/
def xs_F (C n d : String) (U : State) (H : Heap) : Prop := ∃ (c : ClassId) (k : Class) (i : Nat) (f : Field) (a : Nat) (cell : Cell) (v : Value),
  (U.vm.findClass C = some c ∧ U.fieldFound? C n d = some (c, k, i, f) ∧ f.isStatic = true ∧ k.statics = some a ∧ k.staticTypes[f.slot]? = some f.type) ∧
  H[a]? = some cell ∧ cell.vm.isStatics = true ∧ cell.cls = c ∧ f.slot < cell.slots.size ∧ cell.slots[f.slot]? = some v ∧ v.isRef = true
theorem xs_F.of {A : Array Value} {U : State} {C n d : String} (hl : (Cond.laysStatic C n d).before A U = true) (hr : (Cond.isRef (.static C n d)).before A U = true) : xs_F C n d U U.heap := by
  obtain ⟨c, k, i, f, a, cell, h1, h2, h3, h4, h5, h6, h7, h8, h9⟩ := Cond.laysStatic_spec hl
  obtain ⟨u, hu⟩ := Cond.staticRefV h2 h3 h4 h5 h6 hr
  exact ⟨c, k, i, f, a, cell, u.v, ⟨h1, h2, h3, h4, h9⟩, h5, h6, h7, h8, hu, u.ok⟩
theorem xs_F.lays {A : Array Value} {U : State} {C n d : String} (h : xs_F C n d U U.heap) : (Cond.laysStatic C n d).before A U = true := by
  obtain ⟨c, k, i, f, a, cell, v, ⟨h1, h2, h3, h4, h5⟩, g1, g2, g3, g4, g5, g6⟩ := h
  exact Cond.laysStatic_of (first := U) (o := none) (idx := []) h1 h2 h3 h4 g1 g2 g3 g4 h5
theorem xs_F.ref {A : Array Value} {U : State} {C n d : String} (h : xs_F C n d U U.heap) : (Cond.isRef (.static C n d)).before A U = true := by
  obtain ⟨c, k, i, f, a, cell, v, ⟨h1, h2, h3, h4, h5⟩, g1, g2, g3, g4, g5, g6⟩ := h
  have he : (Term.static C n d).eval A U none [] U = some v := by
    simp [Term.eval, State.fieldNamed?, h2, h3, h4, g1, g2, g5]
  simp only [Cond.before, Cond.holds, Cond.value, he]
  cases v <;> simp_all [Value.isRef]
/-- every cell with a class's statics is as it was -/
def xs_keep (H H1 : Heap) : Prop := ∀ (a : Nat) (cell : Cell), H[a]? = some cell → cell.vm.isStatics = true → H1[a]? = some cell
theorem xs_keep.rf {H : Heap} : xs_keep H H := fun _ _ h _ => h
theorem xs_keep.tr {H H1 H2 : Heap} (h : xs_keep H H1) (h2 : xs_keep H1 H2) : xs_keep H H2 := fun a cell x y => h2 a cell (h a cell x y) y
theorem xs_F.move {C n d : String} {u U : State} {H H1 : Heap} (hvm : u.vm.Alike U.vm) (hk : xs_keep H H1) (h : xs_F C n d u H) : xs_F C n d U H1 := by
  obtain ⟨c, k, i, f, a, cell, v, ⟨h1, h2, h3, h4, h5⟩, g1, g2, g3, g4, g5, g6⟩ := h
  obtain ⟨k', hi, he⟩ := State.fieldFound?_setVm hvm h2
  exact ⟨c, k', i, f, a, cell, v, ⟨by rw [hvm.findClass]; exact h1, hi, h3, by rw [he]; exact h4, by rw [he]; exact h5⟩, hk a cell g1 g2, g2, g3, g4, g5, g6⟩
/-- all that the throws of a class ask: words of the tables (L), two statics, texts (S) -/
def xs_Th (L : List Cond) (S : List (String × Nat × String)) (U : State) : Prop := (∀ w ∈ L, w.before #[] U = true) ∧ xs_F Bundle.tN "UNASSIGNED_STACK" Bundle.steD U U.heap ∧ xs_F Bundle.tN "SUPPRESSED_SENTINEL" Bundle.listD U U.heap ∧ ∀ q ∈ S, ∃ sa : Nat, vk_R q.1 q.2.1 q.2.2 sa U
theorem xs_Th.move {L : List Cond} {S : List (String × Nat × String)} {s U : State} (hL : L.all (fun w => w.onTables && w.keepsCast) = true) (hW : s.WarmedH U.vm) (hk : xs_keep s.heap U.heap) (h : xs_Th L S s) : xs_Th L S U := by
  obtain ⟨h1, h2, h3, h4⟩ := h
  refine ⟨fun w hw => xs_at (List.all_eq_true.mp hL w hw) hW (h1 w hw), h2.move hW.alike hk, h3.move hW.alike hk, fun q hq => ?_⟩
  obtain ⟨sa, h5⟩ := h4 q hq
  exact ⟨sa, h5.warm hW⟩
theorem xs_keep.of {A : Nat → Prop} {H0 H : Heap} {locs : List Loc} (hS : va_S A H0 H locs) (hA : ∀ (q : Nat) (cell : Cell), A q → H0[q]? = some cell → cell.vm.isStatics = false) : xs_keep H0 H := by
  intro a cell h hs
  rw [hS.2.1 a (Array.getElem?_eq_some_iff.mp h).1 (fun z => by rw [hA a cell z h] at hs; cases hs)]
  exact h
theorem xs_world {D : va_G} {cl : List vw_C} {ws : va_W} {H0 : Heap} (hP : va_P D cl ws H0) : ∀ (q : Nat) (cell : Cell), va_A ws H0.size q → H0[q]? = some cell → cell.vm.isStatics = false := by
  intro q cell hA hc
  rcases hA with ⟨k, e, hk⟩ | h
  · have h1 := hP k _ hk
    cases e with
    | inl x =>
      have h2 : H0[q]? = some (vp_cell x.1 x.2) := h1
      cases hc.symm.trans h2
      obtain ⟨cA, n, f | f | f | f | f⟩ := x <;> rfl
    | inr o =>
      obtain ⟨r, -, cell2, g1, -, g3, -⟩ := h1
      cases hc.symm.trans g1
      rw [g3]; rfl
  · have h1 := (Array.getElem?_eq_some_iff.mp hc).1
    omega
/-- the words of a throw, but for the four that speak of the heap -/
def xs_no (w : Cond) : Bool := decide (w ≠ .isRef (.static Bundle.tN "UNASSIGNED_STACK" Bundle.steD)) && decide (w ≠ .isRef (.static Bundle.tN "SUPPRESSED_SENTINEL" Bundle.listD)) && decide (w ≠ .laysStatic Bundle.tN "UNASSIGNED_STACK" Bundle.steD) && decide (w ≠ .laysStatic Bundle.tN "SUPPRESSED_SENTINEL" Bundle.listD)
def xs_need (own : String) (ia ic : Nat) (X : String) (names : List String) : List Cond := Cond.classLink own ia X :: Cond.initialized X :: (Bundle.ownAtoms own ic X names).filter xs_no
theorem xs_words {L : List Cond} {S : List (String × Nat × String)} {U : State} {A : Array Value} {own X : String} {ia ic : Nat} {names : List String} (hL : L.all (fun w => w.onTables && w.keepsCast) = true) (h : xs_Th L S U) (hin : ∀ w ∈ xs_need own ia ic X names, w ∈ L) :
    (Cond.classLink own ia X).before A U = true ∧ (Cond.initialized X).before A U = true ∧ ∀ w ∈ Bundle.ownAtoms own ic X names, w.before A U = true := by
  have one : ∀ w ∈ xs_need own ia ic X names, w.before A U = true := fun w hw => xs_at (List.all_eq_true.mp hL w (hin w hw)) (State.WarmedH.refl U) (h.1 w (hin w hw))
  refine ⟨one _ List.mem_cons_self, one _ (List.mem_cons_of_mem _ List.mem_cons_self), fun w hw => ?_⟩
  by_cases e1 : w = .isRef (.static Bundle.tN "UNASSIGNED_STACK" Bundle.steD)
  · rw [e1]; exact h.2.1.ref
  by_cases e2 : w = .isRef (.static Bundle.tN "SUPPRESSED_SENTINEL" Bundle.listD)
  · rw [e2]; exact h.2.2.1.ref
  by_cases e3 : w = .laysStatic Bundle.tN "UNASSIGNED_STACK" Bundle.steD
  · rw [e3]; exact h.2.1.lays
  by_cases e4 : w = .laysStatic Bundle.tN "SUPPRESSED_SENTINEL" Bundle.listD
  · rw [e4]; exact h.2.2.1.lays
  refine one w (List.mem_cons_of_mem _ (List.mem_cons_of_mem _ (List.mem_filter.mpr ⟨hw, ?_⟩)))
  simp [xs_no, e1, e2, e3, e4]
end XS0
section XS1
variable {p : Program} {l : Launch} {e : Env} {R : Room} {s : State} {m : MethodId} {args : Array Value} {below : List Frame} {meth : Method} {c : Code} {H : Heap} {locs : List Loc} {cells slots : Nat}
/-- the same stand, as if the method had been called in the heap of now -/
theorem xs_base {T : State} (X : Stand p l e R s m args below meth c T locs cells slots) {k n : Nat} (hk : cells + k ≤ R.cells) (hn : slots + n ≤ R.slots) :
    Stand p l e { R with cells := k, slots := n } { s with heap := T.heap, slotsUsed := T.slotsUsed } m args below meth c T [] 0 0 := by
  refine ⟨X.admits, X.cas, X.clock, X.frames, ?_, X.hears, X.method, X.code, X.here, X.tail, X.warmed, X.limits, X.bytes, ?_⟩
  · have h := X.room
    have q1 := X.heapSize
    have q2 := X.used
    have q3 := X.book
    simp only [State.hasRoom, Bool.and_eq_true, decide_eq_true_eq] at h ⊢
    obtain ⟨⟨⟨⟨h1, h2⟩, h7⟩, h8⟩, -⟩ := h
    refine ⟨⟨⟨⟨h1, h2⟩, ?_⟩, ?_⟩, q3⟩
    · show T.heap.size + k ≤ e.platform.maxCells
      omega
    · show T.slotsUsed + n ≤ e.platform.maxSlots
      omega
  · have hd : T.heap.toList.drop T.heap.size = [] := List.drop_of_length_le (by simp)
    refine ⟨X.same.1, Nat.le_refl _, Nat.le_refl _, ?_, ?_, fun a c9 h9 => ⟨c9, h9, rfl, rfl, fun _ _ => rfl⟩⟩
    · show T.slotsUsed = T.slotsUsed + ((T.heap.toList.drop T.heap.size).map (·.slots.size)).sum
      rw [hd]; rfl
    · show ((T.heap.toList.drop T.heap.size).map (·.slots.size)).sum ≤ 0
      rw [hd]; exact Nat.le_refl _
/-- nothing was written: the old cells are as they were -/
theorem xs_old {u U : State} {k n : Nat} (h : u.sameButNew ({ U with vm := u.vm } : State) [] k n) : ∀ q : Nat, q < u.heap.size → U.heap[q]? = u.heap[q]? := by
  intro q hq
  obtain ⟨c9, e1, e2, -, e4⟩ := h.2.2.2.2.2 q _ (Array.getElem?_eq_getElem hq)
  have hs : c9.slots = (u.heap[q]).slots := Array.ext_getElem? fun i => e4 i (fun z => nomatch z)
  rw [hs] at e2
  have e5 : c9 = u.heap[q] := e2
  have e6 : U.heap[q]? = some c9 := e1
  rw [e6, e5, Array.getElem?_eq_getElem hq]
theorem xs_back {T U : State} (X : Stand p l e R s m args below meth c T locs cells slots) {k n : Nat} (h : ({ s with heap := T.heap, slotsUsed := T.slotsUsed } : State).sameButNew ({ U with vm := s.vm } : State) [] k n) : s.sameButNew ({ U with vm := s.vm } : State) locs (cells + k) (slots + n) := by
  have h9 : (T.setVm s.vm).setFrames U.frames = ({ s with heap := T.heap, slotsUsed := T.slotsUsed } : State).setFrames U.frames := by
    have e1 : T.setVm s.vm = ({ s.setFrames T.frames with heap := T.heap, slotsUsed := T.slotsUsed } : State) := X.same.1
    rw [e1]
    show ({ (s.setFrames T.frames).setFrames U.frames with heap := T.heap, slotsUsed := T.slotsUsed } : State) = _
    rw [State.setFrames_setFrames]
    rfl
  have h2 : (T.setVm s.vm).sameButNew ({ U with vm := s.vm } : State) [] k n := by
    refine ⟨?_, h.2⟩
    have e2 := h.1
    show ({ U with vm := s.vm } : State) = { (T.setVm s.vm).setFrames U.frames with heap := U.heap, slotsUsed := U.slotsUsed }
    rw [h9]
    exact e2
  have h3 := X.same.trans h2
  rw [List.append_nil] at h3
  exact h3
set_option maxHeartbeats 2000000 in
/-- throw new X("..") in a method without handlers: one cell of six slots is new, no old cell changes -/
theorem xs_throw {L : List Cond} {S : List (String × Nat × String)} {Qc : Array Value → State → Outcome → State → Prop} {free : Addr → Prop} {cc : ByteArray} {pc : Nat} {ls : Array Slot} {rest : List Value} {own X tx : String} {names : List String} {ia is ic : Nat}
    (hexec : p.tables.exec = Jvm.exec) (hb : c.code = cc) (htr : l.stackTraces = false) (hml : ls.size = c.maxLocals) (hlocks : meth.locks = false) (hown : s.vm.findClass own = some m.cls)
    (hL : L.all (fun w => w.onTables && w.keepsCast) = true) (hTh : xs_Th L S s) (hkeep : xs_keep s.heap H) (hX : Bundle.fit X = true) (hnames : names.all Bundle.fit = true)
    (hin : ∀ w ∈ xs_need own ia ic X names, w ∈ L) (hstr : (own, is, tx) ∈ S)
    (d0 : decode cc pc = .ok (.new ia, 3)) (d3 : decode cc (pc + 3) = .ok (.dup, 1)) (d4 : decode cc (pc + 4) = .ok (.ldc is, 2)) (d6 : decode cc (pc + 6) = .ok (.invokespecial ic, 3)) (d9 : decode cc (pc + 9) = .ok (.athrow, 1))
    (hout : ∀ z ∈ c.exceptionTable.toList, ∀ pc : Nat, covers z pc = false)
    (hRf : names.length + 3 < R.frames) (hRl : 1 + (rest.map fun v => v.category).sum + (13 * (names.length + 1) + 42) ≤ R.locals) (hcells : cells + 1 ≤ R.cells) (hslots : slots + 6 ≤ R.slots)
    (hq : ∀ t : State, (∀ z : Nat, z < H.size → t.heap[z]? = H[z]?) → H.size ≤ t.heap.size → s.WarmedH t.vm → xt_Is X H.size t → Qc args s (.threw H.size) t) (hf : ∀ q ∈ locs, free q.base) :
    W p l e R s m args below meth c H locs cells slots (xt_MQ below Qc args s (cells + 1) (slots + 6) free) (F0 m pc ls rest) := by
  intro T hT X0
  have htr2 : e.platform.stackTraces = false := (show e.platform.stackTraces = l.stackTraces by rw [X0.admits.platform]).trans htr
  have Y := xs_base X0 (k := 1) (n := 6) hcells hslots
  have hTh2 : xs_Th L S ({ s with heap := T.heap, slotsUsed := T.slotsUsed } : State) := hTh.move hL (State.WarmedH.refl s) (by show xs_keep s.heap T.heap; rw [hT]; exact hkeep)
  obtain ⟨w1, w2, w3⟩ := xs_words (A := args) hL hTh2 hin
  obtain ⟨sa, hsa⟩ := hTh2.2.2.2 _ hstr
  have hback : ∀ U : State, ({ s with heap := T.heap, slotsUsed := T.slotsUsed } : State).sameButNew ({ U with vm := s.vm } : State) [] (0 + 1) (0 + 6) → s.sameButNew ({ U with vm := s.vm } : State) locs (cells + 1) (slots + 6) := fun U h => xs_back X0 h
  have hhp : ({ s with heap := T.heap, slotsUsed := T.slotsUsed } : State).heap = H := hT
  have hvm : ({ s with heap := T.heap, slotsUsed := T.slotsUsed } : State).vm = s.vm := rfl
  generalize hs2 : ({ s with heap := T.heap, slotsUsed := T.slotsUsed } : State) = s2 at Y hTh2 w1 w2 w3 hsa hback hhp hvm
  have hown2 : s2.vm.findClass own = some m.cls := by rw [hvm]; exact hown
  have w4 : (Cond.instantiable X 6).before args s2 = true := w3 _ (by simp [Bundle.ownAtoms])
  obtain ⟨cX, -, hcX, -⟩ := Cond.instantiable_spec w4
  have body : W p l e { R with cells := 1, slots := 6 } s2 m args below meth c H [] 0 0 (fun U => U.status = .running ∧ Ended U below (.threw H.size) ∧ s2.WarmedH U.vm ∧ s2.sameButNew ({ U with vm := s2.vm } : State) [] (0 + 1) (0 + 6) ∧ ∃ ce : Cell, U.heap[H.size]? = some ce ∧ s2.vm.findClass X = some ce.cls ∧ ce.vm = .none) (F0 m pc ls rest) := by
    refine W.newcK hexec hb hown2 w1 w4 w2 rfl d0 (Nat.le_refl _) (Nat.le_refl _) hcX rfl fun H1 kC hkC e1 z1 o1 => ?_
    refine W.eq (g2 := F0 m (pc + 3) ls (.ref H.size :: rest)) rfl ?_
    refine lv_dup hexec hb d3 rfl ?_
    refine va_ldcS hexec hb hown2 hsa d4 ?_
    intro T3 hT3 X3
    have hcat : (Value.ref H.size).category = 1 := rfl
    obtain ⟨U, hsteps, hrun, hend, hW, hsame, ce, hce, hO⟩ := X3.ctorThrowS hexec htr2 (own := own) (cls := X) (names := names) (ic := ic) hown2 hX (fun n hn => List.all_eq_true.mp hnames n hn) w3 (fun x hx => nomatch hx) hcX hkC (by rw [hT3]; exact e1) (by rw [hhp]; exact Nat.le_refl _) (msg := .ref sa) rfl
      (g := F0 m (pc + 6) ls (.ref sa :: .ref H.size :: .ref H.size :: rest)) rfl hml rfl rfl (rest := rest) rfl (by rw [hb]; exact d6) (by rw [hb]; exact d9) (fun z hz => hout z hz _) hRf
      (by show 2 * 0 + ((Value.ref H.size :: rest).map fun v => v.category).sum + (13 * (names.length + 1) + 42) ≤ R.locals
          simp only [List.map_cons, List.sum_cons, hcat]; omega) hlocks
    exact ⟨U, hsteps, hrun, hend, hW, hsame, ce, hce, hO.cls, hO.vm⟩
  obtain ⟨U, hst, hrun, hend, hW, hsame, ce, hce, hcl, hv⟩ := body T hT Y
  have hold := xs_old hsame
  rw [hhp] at hold
  have hge : H.size ≤ U.heap.size := Nat.le_of_lt (Array.getElem?_eq_some_iff.mp hce).1
  have hW2 : s.WarmedH U.vm := by
    have h9 : s2.WarmedH U.vm := hW
    rw [← hs2] at h9
    exact h9
  refine ⟨U, hst, .threw H.size, hrun, hend, hq U hold hge hW2 ⟨ce, hce, ?_, hv⟩, locs, ⟨hW2, hback U ?_⟩, hf⟩
  · rw [hW.alike.findClass]; exact hcl
  · rw [hvm] at hsame; exact hsame
end XS1
end
section
/-! A thrown object is caught in a method's own table of handlers (its classes resolved or not yet), and the call of a static method that has such a table. -/
section XC0
variable {E : CtlPost} {e : Env} {d : Bool} {acts : List Action} {st : State} {f : JFrame} {a : Addr} {Q : Handler → Pre}
theorem xc_go {x : ExceptionTableEntry} {t : List ExceptionTableEntry} {k : ClassId} {cell : Cell} {vm' : Vm} (hx : covers x f.pc = true) (h0 : x.catchType ≠ 0)
    (hg : (Jvm.resolveClass f.method.cls x.catchType).Gives e.toSetting st.vm (.ok k) vm') (hsz : vm'.classes.size ≤ st.vm.classes.size)
    (hcell : st.heap[a]? = some cell) (hobj : ∀ z, cell.vm ≠ .statics z) (hk : ∃ z, vm'.classes[cell.cls]? = some z) (hc : ∃ z, vm'.classes[k]? = some z) :
    wp (findHandler.go f a (x :: t)) Q E e d acts st ↔ if vm'.assignable cell.cls k = true then Q (.found x.handlerPc) d acts (st.setVm vm') else wp (findHandler.go f a t) Q E e d acts (st.setVm vm') := by
  obtain ⟨ha, ht⟩ := hg.op (op := VmOp.resolveClass f.method.cls x.catchType) rfl
  simp only [covers] at hx
  cases hfit : vm'.assignable cell.cls k <;>
    simp [findHandler.go, hx, h0, ha, ht, hsz, hcell, hobj, hk, hc, hfit, VmOp.dirties, VmOp.acts]
theorem xc_step {r : List Frame} {pc : Nat} {vm' : Vm} (hfind : ∀ (Q : Handler → Pre) (E : CtlPost) (d : Bool) (acts : List Action), wp (findHandler f a) Q E e d acts st ↔ Q (.found pc) d acts (st.setVm vm')) :
    (stepThrowing e st a (.java f :: r)).Is ((st.setVm vm').setFrames (.java { f with pc := pc, stack := [.ref a] } :: r)) [] := by
  simp only [stepThrowing, searchFrame, vmDo]
  generalize hr : Sem.go _ e false [] st = res
  obtain ⟨as, rfl, ha⟩ := Sem.eq_ok_of hr (a := Handler.found pc) (s' := st.setVm vm') (acts' := []) (by simp [hfind _ _ _ _])
  exact ⟨rfl, ha⟩
end XC0
section XC1
variable {p : Program} {l : Launch} {e : Env} {R : Room} {s : State} {m : MethodId} {args : Array Value} {below : List Frame} {meth : Method} {c : Code} {H : Heap} {locs : List Loc} {cells slots : Nat} {Q : State → Prop}
theorem xc_not {E C : String} {cE k : ClassId} (hE : s.vm.findClass E = some cE) (hC : s.vm.findClass C = some k) (h : (Cond.not (.castable E C)).before args s = true) : s.vm.assignable cE k = false := by
  simp only [Cond.before, Cond.holds, Cond.value, hE, hC] at h
  cases hb : s.vm.assignable cE k
  · rfl
  · rw [hb] at h; simp at h
theorem xc_find {own E : String} {x : Addr} {cell : Cell} {g : JFrame} (hpl : e.platform.magicAccessors = ({} : Platform).magicAccessors) (hown : s.vm.findClass own = some g.method.cls) (hvn : cell.vm = .none) (hE : s.vm.findClass E = some cell.cls)
    (e0 : ExceptionTableEntry) (C0 : String) (rest : List ExceptionTableEntry) (hc0 : covers e0 g.pc = true) (ht0 : e0.catchType ≠ 0) (hl0 : (Cond.classLink own e0.catchType C0).before args s = true) (hy : (Cond.castable E C0).before args s = true) :
    ∀ (pre : List (ExceptionTableEntry × String)), (∀ q ∈ pre, covers q.1 g.pc = true ∧ q.1.catchType ≠ 0 ∧ (Cond.classLink own q.1.catchType q.2).before args s = true ∧ (Cond.not (.castable E q.2)).before args s = true) →
    ∀ V : Vm, s.WarmedH V → ∃ vm' : Vm, s.WarmedH vm' ∧ ∀ (Q : Handler → Pre) (E' : CtlPost) (d : Bool) (acts : List Action) (st : State), st.vm = V → st.heap[x]? = some cell →
      (wp (findHandler.go g x (pre.map (·.1) ++ e0 :: rest)) Q E' e d acts st ↔ Q (.found e0.handlerPc) d acts (st.setVm vm')) := by
  have hobj : ∀ z, cell.vm ≠ .statics z := fun z h => by rw [hvn] at h; cases h
  have step : ∀ (en : ExceptionTableEntry) (C : String), (Cond.classLink own en.catchType C).before args s = true → ∀ V : Vm, s.WarmedH V → ∃ k : ClassId, s.vm.findClass C = some k ∧ (Jvm.resolveClass g.method.cls en.catchType).Gives e.toSetting V (.ok k) (V.noted g.method.cls en.catchType (.cls k)) ∧ s.WarmedH (V.noted g.method.cls en.catchType (.cls k)) ∧ (V.noted g.method.cls en.catchType (.cls k)).classes.size ≤ V.classes.size ∧ (∃ z, (V.noted g.method.cls en.catchType (.cls k)).classes[cell.cls]? = some z) ∧ (∃ z, (V.noted g.method.cls en.catchType (.cls k)).classes[k]? = some z) := by
    intro en C hl V hV
    obtain ⟨k, hkF, hcl⟩ := Cond.classLink_spec hown hl e.platform hpl
    obtain ⟨dk, _, _, kt, hd, _, _, _, _, hkt, _, hopen⟩ := hcl.here
    have hW' : s.WarmedH (V.noted g.method.cls en.catchType (.cls k)) := hV.noted hd hopen (State.rightAt_cls hcl)
    obtain ⟨kc, hkc⟩ := Vm.classAt_of_findClass hE
    obtain ⟨k1, hk1, -⟩ := hW'.alike.2.2 _ _ hkc
    obtain ⟨k2, hk2, -⟩ := hW'.alike.2.2 _ _ hkt
    exact ⟨k, hkF, resolveClass_links e.toSetting (hV.classLinks hcl), hW', by no_record, ⟨k1, hk1⟩, ⟨k2, hk2⟩⟩
  intro pre
  induction pre with
  | nil =>
    intro _ V hV
    obtain ⟨k, hkF, hg, hW', hsz, h1, h2⟩ := step e0 C0 hl0 V hV
    obtain ⟨c1, t1, q1, q2, q3⟩ := Cond.castable_spec hy
    cases hE.symm.trans q1
    cases hkF.symm.trans q2
    refine ⟨_, hW', fun Q E' d acts st hst hce => ?_⟩
    subst hst
    show wp (findHandler.go g x (e0 :: rest)) Q E' e d acts st ↔ _
    rw [xc_go hc0 ht0 hg hsz hce hobj h1 h2, if_pos (by rw [hW'.alike.assignable]; exact q3)]
  | cons q t ih =>
    intro hall V hV
    obtain ⟨a1, a2, a3, a4⟩ := hall q List.mem_cons_self
    obtain ⟨k, hkF, hg, hW', hsz, h1, h2⟩ := step q.1 q.2 a3 V hV
    have hno := xc_not hE hkF a4
    obtain ⟨vm2, hW2, h3⟩ := ih (fun z hz => hall z (List.mem_cons_of_mem _ hz)) _ hW'
    refine ⟨vm2, hW2, fun Q E' d acts st hst hce => ?_⟩
    subst hst
    show wp (findHandler.go g x (q.1 :: (t.map (·.1) ++ e0 :: rest))) Q E' e d acts st ↔ _
    rw [xc_go a1 a2 hg hsz hce hobj h1 h2, if_neg (by rw [hW'.alike.assignable, hno]; decide)]
    exact h3 Q E' d acts _ rfl hce
/-- caught: the walk goes on at the handler, with the object alone on the stack -/
theorem xc_catch {own E : String} {x : Addr} {cell : Cell} {pc : Nat} {ls : Array Slot} {st0 : List Value} (hown : s.vm.findClass own = some m.cls) (hcell : H[x]? = some cell) (hvn : cell.vm = .none) (hE : s.vm.findClass E = some cell.cls)
    (e0 : ExceptionTableEntry) (C0 : String) (rest : List ExceptionTableEntry) (pre : List (ExceptionTableEntry × String)) (htab : c.exceptionTable.toList = pre.map (·.1) ++ e0 :: rest) (hc0 : covers e0 pc = true) (ht0 : e0.catchType ≠ 0) (hl0 : (Cond.classLink own e0.catchType C0).before args s = true) (hy : (Cond.castable E C0).before args s = true)
    (hall : ∀ q ∈ pre, covers q.1 pc = true ∧ q.1.catchType ≠ 0 ∧ (Cond.classLink own q.1.catchType q.2).before args s = true ∧ (Cond.not (.castable E q.2)).before args s = true)
    (k : W p l e R s m args below meth c H locs cells slots Q (F0 m e0.handlerPc ls [.ref x])) : xt_W p l e R s m args below meth c H locs cells slots Q (F0 m pc ls st0) x := by
  intro T hT X
  have hpl : e.platform.magicAccessors = ({} : Platform).magicAccessors := by rw [X.admits.platform]
  obtain ⟨vm', hW', hfind⟩ := xc_find (g := F0 m pc ls st0) hpl hown hvn hE e0 C0 rest hc0 ht0 hl0 hy pre hall T.vm X.warmed
  obtain ⟨t, a1, b1⟩ := k (T.setVm vm') hT (X.noted hW')
  refine ⟨t, ?_, b1⟩
  obtain ⟨hgo, hw⟩ := At.throwing (g := F0 m pc ls st0) (X.here : At T (F0 m pc ls st0).method c below) x
  refine Steps.head hgo hw ?_
  have hv : ((T.setTop (F0 m pc ls st0)).pushFrame (.throwing x)).vm = T.vm := Stand.throwing_vm T _ x
  have hh : ((T.setTop (F0 m pc ls st0)).pushFrame (.throwing x)).heap = T.heap := Stand.throwing_heap T _ x
  rw [stepThread_throwing (frames_entered X.here.top _), (xc_step (st := (T.setTop (F0 m pc ls st0)).pushFrame (.throwing x)) (f := F0 m pc ls st0) (pc := e0.handlerPc) (vm' := vm') (fun Q E' d acts => by
    rw [W.findHandler_eq (meth := meth) (code := c) (by rw [hv]; exact X.method') X.code, htab]
    exact hfind Q E' d acts _ hv (by rw [hh, hT]; exact hcell))).1]
  obtain ⟨g₀, hg⟩ := Option.isSome_iff_exists.mp X.here.top
  obtain ⟨r, hr⟩ := State.topJava?_eq_some.mp hg
  have e1 : (((T.setTop (F0 m pc ls st0)).pushFrame (.throwing x)).setVm vm').setFrames (.java { (F0 m pc ls st0) with pc := e0.handlerPc, stack := [.ref x] } :: T.frames.tail) = (T.setVm vm').setTop (F0 m e0.handlerPc ls [.ref x]) := by
    have hr2 : (T.setVm vm').frames = .java g₀ :: r := hr
    rw [State.setTop_of_frames _ hr2]
    show ((((T.setTop (F0 m pc ls st0)).pushFrame (.throwing x)).setFrames _).setVm vm') = ((T.setFrames _).setVm vm')
    rw [State.pushFrame, State.setFrames_setFrames, State.setTop_of_frames _ hr, State.setFrames_setFrames, hr]
    rfl
  rw [e1]
  exact a1
end XC1
section XC2
variable {p : Program} {l : Launch} {e : Env} {R : Room} {s : State} {m : MethodId} {args : Array Value} {below : List Frame} {meth : Method} {c : Code} {H : Heap} {locs : List Loc} {cells slots : Nat}
variable {y : MethodName} {bytes cc : ByteArray} {maxL nL mc ms n index : Nat} {ret : Option FieldType} {hh : List (Nat × Nat × Nat × Nat)} {ws ws' : List Cond} {rm : Room} {Pc : Array Value → State → Prop} {Qc : Array Value → State → Outcome → State → Prop} {free : Addr → Prop} {Ts : List Cond} {own : String} {As rest : List Value} {g : JFrame}
/-- invokestatic of a method that has a table of handlers and returns -/
theorem xc_runS (S : CallFix p m c cc nL s args Ts own) (hM : Met l y ws rm Pc Qc mc ms free) (hG : GoodIn Ts ws) (hw : ws = Cond.codeWith y bytes maxL ret hh :: ws') (hrc : rm.cells = mc) (hrs : rm.slots = ms) (hR : rm.frames + 1 ≤ R.frames ∧ 8 + (maxL + 11) + rm.locals ≤ R.locals)
    (hl : (Cond.methodLink own index y).before args s = true) (hst : (Cond.static y).before args s = true) (hini : (Cond.initialized y.cls).before args s = true) (hy : y.cls ≠ "java/lang/invoke/MethodHandle" ∧ y.cls ≠ "java/lang/invoke/VarHandle") (hd : (parseMethodDescriptor y.desc).map (fun d => d.parameters.length) = some n) (hp : PreS s H Pc As)
    (hg : g.method = m) (hn : As.length = n) (hsize : g.locals.size = nL) (hstack : g.stack = As.reverse ++ rest) (hW : 2 * g.monitorRoom + (rest.map fun v => v.category).sum ≤ 8) (hdg : decode cc g.pc = .ok (.invokestatic index, 3)) (hf : cells + mc ≤ R.cells ∧ slots + ms ≤ R.slots) :
    va_Run p l e R s m args below meth c H locs cells slots mc ms g rest (Qc As.toArray) free := by
  obtain ⟨hx, hb, hml, ho, hts⟩ := S
  have hcw : Cond.codeWith y bytes maxL ret hh ∈ ws := by rw [hw]; exact List.mem_cons_self
  have hws := pay_in hts hG
  have hcode : (Cond.codeWith y bytes maxL ret hh).before args s = true := hts _ (hG _ hcw).1
  have hK : Back l R p e below s args y 3 8 (PreOf R mc ms Pc) (PostOf Qc mc ms free) := va_backW (hh := hh) (bytes := bytes) (maxL := maxL) (ret := ret) hM hp.1 hrc hrs hR.1 hR.2 hws hcw (xt_ini hini)
  intro T hT X
  obtain ⟨mk, methM, cM, hnamed, hmethM, -, -, -, -, -, -, hsigM⟩ := Cond.codeWith_spec hcode
  have hstatic : methM.isStatic = true := Cond.static_spec hnamed hmethM hst
  obtain ⟨kP, hkP, -⟩ := className_of_methodNamed hnamed
  have hinitP : kP.init = .initialized := Cond.initialized_spec (findClass_of_methodNamed hnamed) hkP hini
  have hlen : As.length = methM.sig.parameters.length := by
    rw [hsigM] at hd
    rw [hn]; exact (Option.some.inj hd).symm
  obtain ⟨vm₁, X₁, hstep₁⟩ := X.invokestatic hx ho hl hnamed hmethM hstatic hkP hinitP hy (g := g) hg (argsL := As) (rest := rest) hlen hstack (by rw [hb]; exact hdg)
  obtain ⟨v, ⟨U', l2, c2, s2⟩, X', ⟨g', mk', t, L, e1, e2, hq, h1, hL, h2, h3⟩, hsteps⟩ := hK m meth c ⟨T.setVm vm₁, locs, cells, slots⟩ { g with stack := rest } (.invokestatic index) mk As.toArray X₁ hg (hsize.trans hml.symm) (by rw [hb]; exact hdg) hW (X₁.named hnamed) ⟨hf.1, hf.2, hp.2 (T.setVm vm₁) hT X₁.warmed⟩
  dsimp only [Pt.U, Pt.locs, Pt.cells, Pt.slots] at X' e1 e2 h1 h2 h3 hsteps
  subst h1; subst h2; subst h3
  exact ⟨v, (T.setVm vm₁).calling g' mk' As.toArray, t, U', L, hT, X', hL, e1, e2, hq, fun target h => hstep₁ _ fun acts => by rw [doInvoke_state]; exact hsteps.trans h⟩
end XC2
end
section
/-! The pure side: what a transaction, the desk and the reference are, as mathematical values, and what each call does to them. The rows bt .. b_sshr began as kit/laws/BITS.to-paste. -/
def bt (x : Int32) (i : Nat) : Bool := x.toBitVec.getLsbD i
theorem b_ext {x y : Int32} (h : ∀ i, i < 32 → bt x i = bt y i) : x = y := Int32.toBitVec_inj.mp (BitVec.eq_of_getLsbD_eq (fun i hi => h i hi))
theorem b_or (x y : Int32) (i : Nat) : bt (x ||| y) i = (bt x i || bt y i) := by unfold bt; rw [Int32.toBitVec_or, BitVec.getLsbD_or]
theorem b_and (x y : Int32) (i : Nat) : bt (x &&& y) i = (bt x i && bt y i) := by unfold bt; rw [Int32.toBitVec_and, BitVec.getLsbD_and]
theorem b_big {x : Int32} {i : Nat} (h : 32 ≤ i) : bt x i = false := BitVec.getLsbD_of_ge _ _ h
theorem b_0 (i : Nat) : bt 0 i = false := BitVec.getLsbD_zero
theorem s_l : ∀ n, n < 32 → ((nI n &&& 31).toBitVec.smod 32).toNat = n := by decide +kernel
theorem b_shl (n : Nat) (hn : n < 32) (x : Int32) {i : Nat} (hi : i < 32) : bt (x <<< (nI n &&& 31)) i = (decide (n ≤ i) && bt x (i - n)) := by
  unfold bt
  rw [Int32.toBitVec_shiftLeft]
  show (x.toBitVec <<< ((nI n &&& 31).toBitVec.smod 32).toNat).getLsbD i = _
  rw [s_l n hn, BitVec.getLsbD_shiftLeft]
  rcases Nat.lt_or_ge i n with h | h
  · simp [h, Nat.not_le.mpr h]
  · simp [hi, h, Nat.not_lt.mpr h]
theorem b_sshr (n : Nat) (hn : n < 32) (x : Int32) {i : Nat} (hi : i < 32) : bt (x >>> (nI n &&& 31)) i = if n + i < 32 then bt x (n + i) else bt x 31 := by
  unfold bt
  rw [Int32.toBitVec_shiftRight]
  show (x.toBitVec.sshiftRight ((nI n &&& 31).toBitVec.smod 32).toNat).getLsbD i = _
  rw [s_l n hn, BitVec.getLsbD_sshiftRight, BitVec.msb_eq_getLsbD_last]
  simp [hi]
theorem b_1 : ∀ i, i < 32 → bt 1 i = decide (i = 0) := by decide +kernel
def bI (b : Bool) : Int32 := if b = true then 1 else 0
theorem bI_eq {b : Bool} : bI b = 1 ↔ b = true := by cases b <;> decide
theorem bI_ne {b : Bool} : bI b = 0 ↔ b = false := by cases b <;> decide
theorem bI_inj {b d : Bool} (h : bI b = bI d) : b = d := by cases b <;> cases d <;> first | rfl | (exact absurd h (by decide))
theorem bI_nar (b : Bool) : narrow .boolean (.int (bI b)) = .int (bI b) := by cases b <;> decide +kernel
theorem bI_fit (b : Bool) : fits .boolean (.int (bI b)) = true := by cases b <;> decide +kernel
theorem bI_vnar (b : Bool) : vp_nar .boolean (bI b) = bI b := by cases b <;> decide +kernel
/-- 1 << k -/
def sB (k : Nat) : Int32 := (1 : Int32) <<< (nI k &&& 31)
theorem sB_bt {k i : Nat} (hk : k < 32) (hi : i < 32) : bt (sB k) i = decide (i = k) := by
  unfold sB
  rw [b_shl k hk 1 hi]
  rcases Nat.lt_or_ge i k with h | h
  · simp [Nat.not_le.mpr h, Nat.ne_of_lt h]
  · rw [b_1 _ (by omega)]
    simp only [h, decide_true, Bool.true_and]
    rw [decide_eq_decide]
    omega
theorem or_bt {x : Int32} {k i : Nat} (hk : k < 32) (hi : i < 32) : bt (x ||| sB k) i = (bt x i || decide (i = k)) := by rw [b_or, sB_bt hk hi]
/-- (x >> k) & 1 -/
theorem hold_bt (x : Int32) {k : Nat} (hk : k < 32) : (x >>> (nI k &&& 31)) &&& 1 = bI (bt x k) := by
  apply b_ext
  intro i hi
  rw [b_and, b_1 i hi, b_sshr k hk x hi]
  by_cases h : i = 0
  · subst h
    rw [if_pos (by omega)]
    show (bt x k && decide (0 = 0)) = bt (bI (bt x k)) 0
    cases bt x k <;> decide
  · simp only [h, decide_false, Bool.and_false]
    cases bt x k
    · exact (b_0 i).symm
    · show false = bt 1 i
      rw [b_1 i hi, decide_eq_false h]
/-- a transaction: open, stale, read cells, parts, written cells of each part, values of each part -/
abbrev xTS : Type := Bool × Bool × Int32 × Nat × (Nat → Int32) × (Nat → Nat → Int64)
abbrev xO (z : xTS) : Bool := z.1
abbrev xS (z : xTS) : Bool := z.2.1
abbrev xR (z : xTS) : Int32 := z.2.2.1
abbrev xP (z : xTS) : Nat := z.2.2.2.1
abbrev xW (z : xTS) : Nat → Int32 := z.2.2.2.2.1
abbrev xV (z : xTS) : Nat → Nat → Int64 := z.2.2.2.2.2
/-- the last of the first n parts in which cell k was written -/
def lastW (w : Nat → Int32) (k : Nat) : Nat → Option Nat
  | 0 => none
  | p + 1 => if bt (w p) k = true then some p else lastW w k p
def lastI (o : Option Nat) : Int32 := match o with
  | none => -1
  | some p => nI p
theorem lastW_lt {w : Nat → Int32} {k : Nat} : ∀ {n p : Nat}, lastW w k n = some p → p < n
  | 0, p, h => by cases h
  | n + 1, p, h => by
    unfold lastW at h
    by_cases hb : bt (w n) k = true
    · rw [if_pos hb] at h; cases h; omega
    · rw [if_neg hb] at h; have := lastW_lt h; omega
theorem lastW_bt {w : Nat → Int32} {k : Nat} : ∀ {n p : Nat}, lastW w k n = some p → bt (w p) k = true
  | 0, p, h => by cases h
  | n + 1, p, h => by
    unfold lastW at h
    by_cases hb : bt (w n) k = true
    · rw [if_pos hb] at h; cases h; exact hb
    · rw [if_neg hb] at h; exact lastW_bt h
def tStart (z : xTS) : xTS := (true, false, 0, 1, upd (xW z) 0 0, xV z)
def tClose (z : xTS) : xTS := (false, z.2)
def tMark (z : xTS) (k : Nat) : xTS := (xO z, xS z, xR z ||| sB k, z.2.2.2)
def tNote (z : xTS) (k : Nat) : xTS := if (xO z && bt (xR z) k) = true then (xO z, true, z.2.2) else z
def tPut (z : xTS) (p k : Nat) (x : Int64) : xTS := (xO z, xS z, xR z, xP z, upd (xW z) p (xW z p ||| sB k), va_up (xV z) p (vp_updL (xV z p) k x))
def tAdd (z : xTS) : xTS := (xO z, xS z, xR z, xP z + 1, upd (xW z) (xP z) 0, xV z)
def tDrop (z : xTS) : xTS := (xO z, xS z, xR z, xP z - 1, xW z, xV z)
def tMrg (z : xTS) (p : Nat) : Nat → xTS
  | 0 => z
  | k + 1 => if bt (xW (tMrg z p k) (p + 1)) k = true then tPut (tMrg z p k) p k (xV (tMrg z p k) (p + 1) k) else tMrg z p k
/-- the cells that one of the first n parts has written -/
def tAll (w : Nat → Int32) : Nat → Int32
  | 0 => 0
  | p + 1 => tAll w p ||| w p
/-- how many of the first n bits are set -/
def bCnt (x : Int32) : Nat → Nat
  | 0 => 0
  | n + 1 => bCnt x n + (if bt x n = true then 1 else 0)
/-- the desk: numbers, changes, transactions, done, stale -/
abbrev xDS : Type := (Nat → Int64) × (Nat → Int32) × (Nat → xTS) × Int32 × Int32
abbrev yN (d : xDS) : Nat → Int64 := d.1
abbrev yC (d : xDS) : Nat → Int32 := d.2.1
abbrev yT (d : xDS) : Nat → xTS := d.2.2.1
abbrev yD (d : xDS) : Int32 := d.2.2.2.1
abbrev yS (d : xDS) : Int32 := d.2.2.2.2
def yNote (f : Nat → xTS) (k : Nat) : Nat → Nat → xTS
  | 0 => f
  | n + 1 => va_up (yNote f k n) n (tNote (yNote f k n n) k)
def yChange (d : xDS) (k : Nat) (x : Int64) : xDS := (vp_updL (yN d) k x, upd (yC d) k (yC d k + 1), yNote (yT d) k 8, yD d, yS d)
def ySet (d : xDS) (t : Nat) (z : xTS) : xDS := (yN d, yC d, va_up (yT d) t z, yD d, yS d)
def yDoneN (t : Nat) (d : xDS) : Nat → xDS
  | 0 => d
  | k + 1 => match lastW (xW (yT (yDoneN t d k) t)) k (xP (yT (yDoneN t d k) t)) with
    | none => yDoneN t d k
    | some p => yChange (yDoneN t d k) k (xV (yT (yDoneN t d k) t) p k)
def yOpen (f : Nat → xTS) : Nat → Nat
  | 0 => 0
  | n + 1 => yOpen f n + (if xO (f n) = true then 1 else 0)
end
section
/-! What each call does: to the desk (y..) and to the reference (z..). -/
/-- the index that an int is, below n -/
def ix (n : Nat) (x : Int32) : Option Nat := if 0 ≤ x.toInt ∧ x.toInt < (n : Int) then some x.toInt.toNat else none
theorem ix_some {n j : Nat} {x : Int32} (hn : n < 2 ^ 31) (h : ix n x = some j) : j < n ∧ x = nI j := by
  unfold ix at h
  by_cases hc : 0 ≤ x.toInt ∧ x.toInt < (n : Int)
  · rw [if_pos hc] at h
    have hj : x.toInt.toNat = j := Option.some.inj h
    have h1 : x.toInt = (j : Int) := by omega
    refine ⟨by omega, Int32.toInt_inj.mp ?_⟩
    rw [nI_toInt (by omega)]
    exact h1
  · rw [if_neg hc] at h; cases h
theorem ix_none {n : Nat} {x : Int32} (hn : n < 2 ^ 31) (h : ix n x = none) : x < 0 ∨ nI n ≤ x := by
  unfold ix at h
  by_cases hc : 0 ≤ x.toInt ∧ x.toInt < (n : Int)
  · rw [if_pos hc] at h; cases h
  · rcases Int.lt_or_le x.toInt 0 with h0 | h0
    · left
      rw [Int32.lt_iff_toInt_lt, Int32.toInt_zero]
      exact h0
    · right
      rw [Int32.le_iff_toInt_le, nI_toInt hn]
      omega
theorem ix_nI {n j : Nat} (h : j < n) (hn : n < 2 ^ 31) : ix n (nI j) = some j := by
  unfold ix
  rw [nI_toInt (by omega), if_pos (by omega)]
  rfl
abbrev qA : String := "java/lang/IllegalArgumentException"
abbrev qS : String := "java/lang/IllegalStateException"
abbrev qB : String := "java/lang/IndexOutOfBoundsException"
abbrev qU : String := "java/lang/UnsupportedOperationException"
def yBegin (d : xDS) (t : Int32) : Option String × xDS := match ix 8 t with
  | none => (some qA, d)
  | some j => if xO (yT d j) = true then (some qS, d) else (none, ySet d j (tStart (yT d j)))
/-- the transaction ends, stale -/
def yEnd (d : xDS) (j : Nat) : xDS := (yN d, yC d, va_up (yT d) j (tClose (yT d j)), yD d, yS d + 1)
def yRead (d : xDS) (t k : Int32) : (Option String × Int64) × xDS := match ix 8 t with
  | none => ((some qA, 0), d)
  | some j => match ix 32 k with
    | none => ((some qB, 0), d)
    | some i => if xO (yT d j) = false then ((some qS, 0), d) else
      match lastW (xW (yT d j)) i (xP (yT d j)) with
      | some p => ((none, xV (yT d j) p i), d)
      | none => if xS (yT d j) = true then ((some qU, 0), yEnd d j) else ((none, yN d i), ySet d j (tMark (yT d j) i))
def yWrite (d : xDS) (t k : Int32) (x : Int64) : Option String × xDS := match ix 8 t with
  | none => (some qA, d)
  | some j => match ix 32 k with
    | none => (some qB, d)
    | some i => if xO (yT d j) = false then (some qS, d) else (none, ySet d j (tPut (yT d j) (xP (yT d j) - 1) i x))
def ySave (d : xDS) (t : Int32) : (Option String × Int32) × xDS := match ix 8 t with
  | none => ((some qA, 0), d)
  | some j => if xO (yT d j) = false then ((some qS, 0), d) else if 5 ≤ xP (yT d j) then ((some qU, 0), d) else ((none, nI (xP (yT d j) + 1)), ySet d j (tAdd (yT d j)))
def yBack (d : xDS) (t : Int32) : Option String × xDS := match ix 8 t with
  | none => (some qA, d)
  | some j => if xO (yT d j) = false then (some qS, d) else if xP (yT d j) ≤ 1 then (some qU, d) else (none, ySet d j (tDrop (yT d j)))
def yKeep (d : xDS) (t : Int32) : Option String × xDS := match ix 8 t with
  | none => (some qA, d)
  | some j => if xO (yT d j) = false then (some qS, d) else if xP (yT d j) ≤ 1 then (some qU, d) else (none, ySet d j (tDrop (tMrg (yT d j) (xP (yT d j) - 2) 32)))
def yDone (d : xDS) (t : Int32) : (Option String × Bool) × xDS := match ix 8 t with
  | none => ((some qA, false), d)
  | some j => if xO (yT d j) = false then ((some qS, false), d) else if xS (yT d j) = true then ((none, false), yEnd d j) else
    ((none, true), (yN (yDoneN j (ySet d j (tClose (yT d j))) 32), yC (yDoneN j (ySet d j (tClose (yT d j))) 32), yT (yDoneN j (ySet d j (tClose (yT d j))) 32), yD (yDoneN j (ySet d j (tClose (yT d j))) 32) + 1, yS (yDoneN j (ySet d j (tClose (yT d j))) 32)))
def yLeave (d : xDS) (t : Int32) : Option String × xDS := match ix 8 t with
  | none => (some qA, d)
  | some j => if xO (yT d j) = false then (some qS, d) else (none, ySet d j (tClose (yT d j)))
def yPut (d : xDS) (k : Int32) (x : Int64) : Option String × xDS := match ix 32 k with
  | none => (some qB, d)
  | some i => (none, yChange d i x)
def yCell (d : xDS) (k : Int32) : Option String × Int64 := match ix 32 k with
  | none => (some qB, 0)
  | some i => (none, yN d i)
def yChd (d : xDS) (k : Int32) : Option String × Int32 := match ix 32 k with
  | none => (some qB, 0)
  | some i => (none, yC d i)
def yCount (d : xDS) (t w : Int32) : Option String × Int32 := match ix 4 w with
  | none => (some qA, 0)
  | some c => match ix 8 t with
    | none => (some qA, 0)
    | some j => if xO (yT d j) = false then (some qS, 0) else
      (none, if c = 0 then nI (bCnt (xR (yT d j)) 32) else if c = 1 then nI (bCnt (tAll (xW (yT d j)) (xP (yT d j))) 32) else if c = 2 then nI (xP (yT d j)) else bI (xS (yT d j)))
def yAll (d : xDS) (w : Int32) : Option String × Int32 := match ix 3 w with
  | none => (some qA, 0)
  | some c => (none, if c = 0 then nI (yOpen (yT d) 8) else if c = 1 then yD d else yS d)
/-- the reference: err, cells, wrote, changes, parts, seen, has, read, open, done, stale -/
abbrev xRS : Type := Int32 × (Nat → Int64) × (Nat → Int64) × (Nat → Int32) × (Nat → Nat) × (Nat → Int32) × (Nat → Bool) × (Nat → Bool) × (Nat → Bool) × Int32 × Int32
abbrev zE (r : xRS) : Int32 := r.1
abbrev zC (r : xRS) : Nat → Int64 := r.2.1
abbrev zW (r : xRS) : Nat → Int64 := r.2.2.1
abbrev zG (r : xRS) : Nat → Int32 := r.2.2.2.1
abbrev zP (r : xRS) : Nat → Nat := r.2.2.2.2.1
abbrev zS (r : xRS) : Nat → Int32 := r.2.2.2.2.2.1
abbrev zH (r : xRS) : Nat → Bool := r.2.2.2.2.2.2.1
abbrev zR (r : xRS) : Nat → Bool := r.2.2.2.2.2.2.2.1
abbrev zO (r : xRS) : Nat → Bool := r.2.2.2.2.2.2.2.2.1
abbrev zD (r : xRS) : Int32 := r.2.2.2.2.2.2.2.2.2.1
abbrev zL (r : xRS) : Int32 := r.2.2.2.2.2.2.2.2.2.2
def zErr (r : xRS) (c : Int32) : xRS := (c, r.2)
/-- the place of cell k in the last part of t -/
def zAt (r : xRS) (t k : Nat) : Nat := (5 * t + zP r t - 1) * 32 + k
def zClr (f : Nat → Bool) (b : Nat) : Nat → Nat → Bool
  | 0 => f
  | n + 1 => va_up (zClr f b n) (b + n) false
def zCpB (f : Nat → Bool) (a b : Nat) : Nat → Nat → Bool
  | 0 => f
  | n + 1 => va_up (zCpB f a b n) (b + n) (zCpB f a b n (a + n))
def zCpL (f : Nat → Int64) (a b : Nat) : Nat → Nat → Int64
  | 0 => f
  | n + 1 => vp_updL (zCpL f a b n) (b + n) (zCpL f a b n (a + n))
def zSt (r : xRS) (t : Nat) : Nat → Bool
  | 0 => false
  | n + 1 => zSt r t n || (zR r (32 * t + n) && decide (zS r (32 * t + n) ≠ zG r n))
def zBegin (r : xRS) (t : Int32) : xRS := match ix 8 t with
  | none => zErr r 1
  | some j => if zO r j = true then zErr r 2 else (0, zC r, zW r, zG r, va_up (zP r) j 1, zS r, zClr (zH r) (160 * j) 32, zClr (zR r) (32 * j) 32, va_up (zO r) j true, zD r, zL r)
def zRead (r : xRS) (t k : Int32) : Int64 × xRS := match ix 8 t with
  | none => (0, zErr r 1)
  | some j => match ix 32 k with
    | none => (0, zErr r 2)
    | some i => if zO r j = false then (0, zErr r 3) else if zH r (zAt r j i) = true then (zW r (zAt r j i), zErr r 0) else
      if zSt r j 32 = true then (0, (4, zC r, zW r, zG r, zP r, zS r, zH r, zR r, va_up (zO r) j false, zD r, zL r + 1)) else
      (zC r i, (0, zC r, zW r, zG r, zP r, if zR r (32 * j + i) = true then zS r else upd (zS r) (32 * j + i) (zG r i), zH r, va_up (zR r) (32 * j + i) true, zO r, zD r, zL r))
def zWrite (r : xRS) (t k : Int32) (x : Int64) : xRS := match ix 8 t with
  | none => zErr r 1
  | some j => match ix 32 k with
    | none => zErr r 2
    | some i => if zO r j = false then zErr r 3 else (0, zC r, vp_updL (zW r) (zAt r j i) x, zG r, zP r, zS r, va_up (zH r) (zAt r j i) true, zR r, zO r, zD r, zL r)
def zSave (r : xRS) (t : Int32) : Int32 × xRS := match ix 8 t with
  | none => (0, zErr r 1)
  | some j => if zO r j = false then (0, zErr r 2) else if zP r j = 5 then (0, zErr r 3) else
    (nI (zP r j + 1), (0, zC r, zCpL (zW r) (zAt r j 0) (zAt r j 0 + 32) 32, zG r, va_up (zP r) j (zP r j + 1), zS r, zCpB (zH r) (zAt r j 0) (zAt r j 0 + 32) 32, zR r, zO r, zD r, zL r))
def zBack (r : xRS) (t : Int32) : xRS := match ix 8 t with
  | none => zErr r 1
  | some j => if zO r j = false then zErr r 2 else if zP r j = 1 then zErr r 3 else (0, zC r, zW r, zG r, va_up (zP r) j (zP r j - 1), zS r, zH r, zR r, zO r, zD r, zL r)
def zKeep (r : xRS) (t : Int32) : xRS := match ix 8 t with
  | none => zErr r 1
  | some j => if zO r j = false then zErr r 2 else if zP r j = 1 then zErr r 3 else
    (0, zC r, zCpL (zW r) (zAt r j 0) (zAt r j 0 - 32) 32, zG r, va_up (zP r) j (zP r j - 1), zS r, zCpB (zH r) (zAt r j 0) (zAt r j 0 - 32) 32, zR r, zO r, zD r, zL r)
def zDoneN (r : xRS) (t : Nat) : Nat → (Nat → Int64) × (Nat → Int32)
  | 0 => (zC r, zG r)
  | k + 1 => if zH r (zAt r t k) = true then (vp_updL (zDoneN r t k).1 k (zW r (zAt r t k)), upd (zDoneN r t k).2 k ((zDoneN r t k).2 k + 1)) else zDoneN r t k
def zDone (r : xRS) (t : Int32) : Bool × xRS := match ix 8 t with
  | none => (false, zErr r 1)
  | some j => if zO r j = false then (false, zErr r 2) else if zSt r j 32 = true then (false, (0, zC r, zW r, zG r, zP r, zS r, zH r, zR r, va_up (zO r) j false, zD r, zL r + 1)) else
    (true, (0, (zDoneN r j 32).1, zW r, (zDoneN r j 32).2, zP r, zS r, zH r, zR r, va_up (zO r) j false, zD r + 1, zL r))
def zLeave (r : xRS) (t : Int32) : xRS := match ix 8 t with
  | none => zErr r 1
  | some j => if zO r j = false then zErr r 2 else (0, zC r, zW r, zG r, zP r, zS r, zH r, zR r, va_up (zO r) j false, zD r, zL r)
def zPut (r : xRS) (k : Int32) (x : Int64) : xRS := match ix 32 k with
  | none => zErr r 1
  | some i => (0, vp_updL (zC r) i x, zW r, upd (zG r) i (zG r i + 1), r.2.2.2.2)
def zCell (r : xRS) (k : Int32) : Int64 × xRS := match ix 32 k with
  | none => (0, zErr r 1)
  | some i => (zC r i, zErr r 0)
def zChd (r : xRS) (k : Int32) : Int32 × xRS := match ix 32 k with
  | none => (0, zErr r 1)
  | some i => (zG r i, zErr r 0)
def zCntR (r : xRS) (t : Nat) : Nat → Nat
  | 0 => 0
  | n + 1 => zCntR r t n + (if zR r (32 * t + n) = true then 1 else 0)
def zCntH (r : xRS) (t : Nat) : Nat → Nat
  | 0 => 0
  | n + 1 => zCntH r t n + (if zH r (zAt r t n) = true then 1 else 0)
def zCount (r : xRS) (t w : Int32) : Int32 × xRS := match ix 8 t with
  | none => (0, zErr r 1)
  | some j => match ix 4 w with
    | none => (0, zErr r 1)
    | some c => if zO r j = false then (0, zErr r 2) else
      (if c = 0 then nI (zCntR r j 32) else if c = 1 then nI (zCntH r j 32) else if c = 2 then nI (zP r j) else bI (zSt r j 32), zErr r 0)
def zOpn (r : xRS) : Nat → Nat
  | 0 => 0
  | n + 1 => zOpn r n + (if zO r n = true then 1 else 0)
def zAll (r : xRS) (w : Int32) : Int32 × xRS := match ix 3 w with
  | none => (0, zErr r 1)
  | some c => (if c = 0 then nI (zOpn r 8) else if c = 1 then zD r else zL r, zErr r 0)
end
section
/-! The desk and the reference go side by side: pure, no machine. -/
theorem up_s {α : Type} (f : Nat → α) (k : Nat) (v : α) : va_up f k v k = v := va_up_self f k v
theorem zClr_at {f : Nat → Bool} {b : Nat} : ∀ (n j : Nat), zClr f b n j = if b ≤ j ∧ j < b + n then false else f j
  | 0, j => by rw [if_neg (by omega)]; rfl
  | n + 1, j => by
    show va_up (zClr f b n) (b + n) false j = _
    by_cases h : j = b + n
    · subst h; rw [va_up_self, if_pos (by omega)]
    · rw [va_up_ne _ _ h, zClr_at n j]
      by_cases h2 : b ≤ j ∧ j < b + n
      · rw [if_pos h2, if_pos (by omega)]
      · rw [if_neg h2, if_neg (by omega)]
theorem zCpB_at {f : Nat → Bool} {a b : Nat} : ∀ (n j : Nat), (a + n ≤ b ∨ b + n ≤ a) → zCpB f a b n j = if b ≤ j ∧ j < b + n then f (a + (j - b)) else f j
  | 0, j, _ => by rw [if_neg (by omega)]; rfl
  | n + 1, j, hd => by
    show va_up (zCpB f a b n) (b + n) (zCpB f a b n (a + n)) j = _
    by_cases h : j = b + n
    · subst h
      rw [va_up_self, if_pos (by omega), zCpB_at n (a + n) (by omega), if_neg (by omega)]
      congr 1; omega
    · rw [va_up_ne _ _ h, zCpB_at n j (by omega)]
      by_cases h2 : b ≤ j ∧ j < b + n
      · rw [if_pos h2, if_pos (by omega)]
      · rw [if_neg h2, if_neg (by omega)]
theorem zCpL_at {f : Nat → Int64} {a b : Nat} : ∀ (n j : Nat), (a + n ≤ b ∨ b + n ≤ a) → zCpL f a b n j = if b ≤ j ∧ j < b + n then f (a + (j - b)) else f j
  | 0, j, _ => by rw [if_neg (by omega)]; rfl
  | n + 1, j, hd => by
    show vp_updL (zCpL f a b n) (b + n) (zCpL f a b n (a + n)) j = _
    by_cases h : j = b + n
    · subst h
      rw [pk_uLs, if_pos (by omega), zCpL_at n (a + n) (by omega), if_neg (by omega)]
      congr 1; omega
    · rw [pk_uLn h, zCpL_at n j (by omega)]
      by_cases h2 : b ≤ j ∧ j < b + n
      · rw [if_pos h2, if_pos (by omega)]
      · rw [if_neg h2, if_neg (by omega)]
/-- what ties transaction t of the reference to a transaction of the desk -/
def SimO (r : xRS) (t : Nat) (z : xTS) : Prop := (1 ≤ xP z ∧ xP z ≤ 5 ∧ zP r t = xP z) ∧ (∀ k, k < 32 → bt (xR z) k = zR r (32 * t + k)) ∧ (∀ k, k < 32 → zR r (32 * t + k) = true → ∃ a c : Nat, a ≤ c ∧ c < 2 ^ 31 ∧ zS r (32 * t + k) = nI a ∧ zG r k = nI c) ∧ xS z = zSt r t 32 ∧
  ∀ p k, p < xP z → k < 32 → zH r ((5 * t + p) * 32 + k) = (lastW (xW z) k (p + 1)).isSome ∧ ∀ q, lastW (xW z) k (p + 1) = some q → zW r ((5 * t + p) * 32 + k) = xV z q k
def SimT (r : xRS) (t : Nat) (z : xTS) : Prop := xO z = zO r t ∧ (xO z = true → SimO r t z)
def Sim (b : Nat → Nat) (d : xDS) (r : xRS) : Prop := (∀ k, k < 32 → yN d k = zC r k) ∧ (∀ k, k < 32 → yC d k = zG r k) ∧ (∀ k, k < 32 → ∃ c : Nat, c ≤ b k ∧ zG r k = nI c) ∧ (yD d = zD r ∧ yS d = zL r) ∧ ∀ t, t < 8 → SimT r t (yT d t)
theorem zSt_eq {r r2 : xRS} {t : Nat} : ∀ n, n ≤ 32 → (∀ k, k < 32 → zR r2 (32 * t + k) = zR r (32 * t + k) ∧ (zR r (32 * t + k) = true → zS r2 (32 * t + k) = zS r (32 * t + k)) ∧ zG r2 k = zG r k) → zSt r2 t n = zSt r t n
  | 0, _, _ => rfl
  | n + 1, hn, h => by
    obtain ⟨h1, h2, h3⟩ := h n (by omega)
    show (zSt r2 t n || (zR r2 (32 * t + n) && decide (zS r2 (32 * t + n) ≠ zG r2 n))) = (zSt r t n || (zR r (32 * t + n) && decide (zS r (32 * t + n) ≠ zG r n)))
    rw [zSt_eq n (by omega) h, h1, h3]
    cases hb : zR r (32 * t + n)
    · rfl
    · rw [h2 hb]
/-- the reference's places of t are as they were: what ties it to t stays -/
theorem SimO.same {r r2 : xRS} {t : Nat} {z : xTS} (h : SimO r t z) (hP : zP r2 t = zP r t) (hR : ∀ k, k < 32 → zR r2 (32 * t + k) = zR r (32 * t + k)) (hS : ∀ k, k < 32 → zS r2 (32 * t + k) = zS r (32 * t + k)) (hG : ∀ k, k < 32 → zG r2 k = zG r k)
    (hH : ∀ i, 160 * t ≤ i → i < 160 * t + 160 → zH r2 i = zH r i) (hW : ∀ i, 160 * t ≤ i → i < 160 * t + 160 → zW r2 i = zW r i) : SimO r2 t z := by
  obtain ⟨⟨h1, h2, h3⟩, h4, h5, h6, h7⟩ := h
  refine ⟨⟨h1, h2, hP.trans h3⟩, fun k hk => (h4 k hk).trans (hR k hk).symm, fun k hk hr => ?_, ?_, fun p k hp hk => ?_⟩
  · rw [hR k hk] at hr
    rw [hS k hk, hG k hk]
    exact h5 k hk hr
  · rw [h6]
    exact (zSt_eq 32 (by omega) (fun k hk => ⟨hR k hk, fun _ => hS k hk, hG k hk⟩)).symm
  · have hl : 160 * t ≤ (5 * t + p) * 32 + k ∧ (5 * t + p) * 32 + k < 160 * t + 160 := by omega
    rw [hH _ hl.1 hl.2, hW _ hl.1 hl.2]
    exact h7 p k hp hk
theorem tNote_cl {z : xTS} {k : Nat} (h : xO z = false) : tNote z k = z := by
  unfold tNote
  rw [h, if_neg (by simp)]
theorem tNote_op {z : xTS} {k : Nat} (h : xO z = true) : tNote z k = (xO z, xS z || bt (xR z) k, z.2.2) := by
  unfold tNote
  rw [h]
  cases hb : bt (xR z) k
  · rw [if_neg (by simp)]
    obtain ⟨o, s, rest⟩ := z
    cases h
    simp
  · rw [if_pos (by simp)]
    simp
theorem yNote_at {f : Nat → xTS} {k : Nat} : ∀ n t, yNote f k n t = if t < n then tNote (f t) k else f t
  | 0, t => by rw [if_neg (by omega)]; rfl
  | n + 1, t => by
    show va_up (yNote f k n) n (tNote (yNote f k n n) k) t = _
    by_cases h : t = n
    · subst h
      rw [va_up_self, yNote_at t t, if_neg (by omega), if_pos (by omega)]
    · rw [va_up_ne _ _ h, yNote_at n t]
      by_cases h2 : t < n
      · rw [if_pos h2, if_pos (by omega)]
      · rw [if_neg h2, if_neg (by omega)]
/-- the reference behind a change of cell k -/
def zChg (r : xRS) (k : Nat) (x : Int64) : xRS := (zE r, vp_updL (zC r) k x, zW r, upd (zG r) k (zG r k + 1), r.2.2.2.2)
theorem zSt_chg {r : xRS} {t k c : Nat} {x : Int64} (hk : k < 32) (hc : zG r k = nI c) (hcb : c + 1 < 2 ^ 31) (hs : zR r (32 * t + k) = true → ∃ a, a ≤ c ∧ zS r (32 * t + k) = nI a) : ∀ m, m ≤ 32 → zSt (zChg r k x) t m = (zSt r t m || (decide (k < m) && zR r (32 * t + k)))
  | 0, _ => by simp [zSt]
  | m + 1, hm => by
    show (zSt (zChg r k x) t m || (zR r (32 * t + m) && decide (zS r (32 * t + m) ≠ upd (zG r) k (zG r k + 1) m))) = ((zSt r t m || (zR r (32 * t + m) && decide (zS r (32 * t + m) ≠ zG r m))) || (decide (k < m + 1) && zR r (32 * t + k)))
    rw [zSt_chg hk hc hcb hs m (by omega)]
    by_cases h : m = k
    · subst h
      rw [pk_us]
      have e1 : decide (m < m) = false := decide_eq_false (by omega)
      have e2 : decide (m < m + 1) = true := decide_eq_true (by omega)
      rw [e1, e2]
      cases hr : zR r (32 * t + m)
      · simp
      · obtain ⟨a, ha, hsa⟩ := hs hr
        have e3 : decide (zS r (32 * t + m) ≠ zG r m + 1) = true := decide_eq_true (by
          rw [hsa, hc, nI_1]
          intro q
          have := (nI_eq (by omega) (by omega)).mp q
          omega)
        rw [e3]
        simp
    · rw [pk_un h]
      have e1 : decide (k < m + 1) = decide (k < m) := by rw [decide_eq_decide]; omega
      rw [e1]
      cases zSt r t m <;> cases (zR r (32 * t + m) && decide (zS r (32 * t + m) ≠ zG r m)) <;> simp
theorem SimT.note {r : xRS} {t k c : Nat} {x : Int64} {z : xTS} (h : SimT r t z) (hk : k < 32) (hc : zG r k = nI c) (hcb : c + 1 < 2 ^ 31) : SimT (zChg r k x) t (tNote z k) := by
  obtain ⟨h0, h1⟩ := h
  cases ho : xO z
  · rw [tNote_cl ho]
    exact ⟨h0, fun q => by rw [ho] at q; cases q⟩
  · obtain ⟨h2, h3, h4, h5, h6⟩ := h1 ho
    have hs : zR r (32 * t + k) = true → ∃ a, a ≤ c ∧ zS r (32 * t + k) = nI a := fun hr => by
      obtain ⟨a, c2, q1, q0, q2, q3⟩ := h4 k hk hr
      have := (nI_eq (a := c2) (b := c) q0 (by omega)).mp (q3.symm.trans hc)
      exact ⟨a, by omega, q2⟩
    rw [tNote_op ho]
    refine ⟨h0, fun _ => ⟨h2, h3, fun j hj hr => ?_, ?_, h6⟩⟩
    · obtain ⟨a, c2, q1, q0, q2, q3⟩ := h4 j hj hr
      by_cases hjk : j = k
      · subst hjk
        obtain ⟨a2, q4, q5⟩ := hs hr
        refine ⟨a2, c + 1, by omega, hcb, q5, ?_⟩
        show upd (zG r) j (zG r j + 1) j = _
        rw [pk_us, hc, nI_1]
      · refine ⟨a, c2, q1, q0, q2, ?_⟩
        show upd (zG r) k (zG r k + 1) j = _
        rw [pk_un hjk]
        exact q3
    · show (xS z || bt (xR z) k) = zSt (zChg r k x) t 32
      rw [zSt_chg hk hc hcb hs 32 (by omega), h5, h3 k hk]
      have e1 : decide (k < 32) = true := decide_eq_true hk
      rw [e1]
      simp
theorem Sim.wide {b b2 : Nat → Nat} {d : xDS} {r : xRS} (h : Sim b d r) (hb : ∀ k, k < 32 → b k ≤ b2 k) : Sim b2 d r := by
  obtain ⟨h1, h2, h3, h4, h5⟩ := h
  refine ⟨h1, h2, fun k hk => ?_, h4, h5⟩
  obtain ⟨c, q1, q2⟩ := h3 k hk
  exact ⟨c, Nat.le_trans q1 (hb k hk), q2⟩
theorem Sim.change {b : Nat → Nat} {d : xDS} {r : xRS} {k : Nat} {x : Int64} (h : Sim b d r) (hk : k < 32) (hb : b k + 1 < 2 ^ 31) : Sim (va_up b k (b k + 1)) (yChange d k x) (zChg r k x) := by
  obtain ⟨h1, h2, h3, h4, h5⟩ := h
  obtain ⟨c, q1, q2⟩ := h3 k hk
  refine ⟨fun j hj => ?_, fun j hj => ?_, fun j hj => ?_, h4, fun t ht => ?_⟩
  · show vp_updL (yN d) k x j = vp_updL (zC r) k x j
    by_cases e : j = k
    · subst e; rw [pk_uLs, pk_uLs]
    · rw [pk_uLn e, pk_uLn e]; exact h1 j hj
  · show upd (yC d) k (yC d k + 1) j = upd (zG r) k (zG r k + 1) j
    by_cases e : j = k
    · subst e; rw [pk_us, pk_us, h2 j hj]
    · rw [pk_un e, pk_un e]; exact h2 j hj
  · show ∃ c : Nat, c ≤ va_up b k (b k + 1) j ∧ upd (zG r) k (zG r k + 1) j = nI c
    by_cases e : j = k
    · subst e
      exact ⟨c + 1, by rw [va_up_self]; omega, by rw [pk_us, q2, nI_1]⟩
    · rw [va_up_ne _ _ e, pk_un e]; exact h3 j hj
  · show SimT (zChg r k x) t (yNote (yT d) k 8 t)
    rw [yNote_at, if_pos ht]
    exact (h5 t ht).note hk q2 (by omega)
/-- only what ties transaction j changes -/
theorem Sim.at {b : Nat → Nat} {d : xDS} {r r2 : xRS} {j : Nat} {z : xTS} {l : Int32} (h : Sim b d r) (hC : zC r2 = zC r) (hG : zG r2 = zG r) (hD : yD d = zD r2) (hL : l = zL r2) (hj : SimT r2 j z)
    (hO : ∀ t, t < 8 → t ≠ j → zO r2 t = zO r t ∧ zP r2 t = zP r t ∧ (∀ k, k < 32 → zR r2 (32 * t + k) = zR r (32 * t + k)) ∧ (∀ k, k < 32 → zS r2 (32 * t + k) = zS r (32 * t + k)) ∧ (∀ i, 160 * t ≤ i → i < 160 * t + 160 → zH r2 i = zH r i) ∧ (∀ i, 160 * t ≤ i → i < 160 * t + 160 → zW r2 i = zW r i)) :
    Sim b (yN d, yC d, va_up (yT d) j z, yD d, l) r2 := by
  obtain ⟨h1, h2, h3, h4, h5⟩ := h
  refine ⟨fun k hk => ?_, fun k hk => ?_, fun k hk => ?_, ⟨hD, hL⟩, fun t ht => ?_⟩
  · rw [hC]; exact h1 k hk
  · rw [hG]; exact h2 k hk
  · rw [hG]; exact h3 k hk
  · show SimT r2 t (va_up (yT d) j z t)
    by_cases e : t = j
    · subst e; rw [va_up_self]; exact hj
    · rw [va_up_ne _ _ e]
      obtain ⟨g1, g2, g3, g4, g5, g6⟩ := hO t ht e
      obtain ⟨f0, f1⟩ := h5 t ht
      exact ⟨f0.trans g1.symm, fun ho => (f1 ho).same g2 g3 g4 (fun k _ => by rw [hG]) g5 g6⟩
/-- the code that a wrapper of the law gives to what was thrown -/
def cdOf (L : List String) (o : Option String) : Int32 := match o with
  | none => 0
  | some X => nI (L.idxOf X + 1)
theorem cd0 (L : List String) : (0 : Int32) = cdOf L none := rfl
theorem cdA1 : (1 : Int32) = cdOf [qA, qS] (some qA) := by decide +kernel
theorem cdA2 : (2 : Int32) = cdOf [qA, qS] (some qS) := by decide +kernel
theorem cdB1 : (1 : Int32) = cdOf [qA, qB, qS, qU] (some qA) := by decide +kernel
theorem cdB2 : (2 : Int32) = cdOf [qA, qB, qS, qU] (some qB) := by decide +kernel
theorem cdB3 : (3 : Int32) = cdOf [qA, qB, qS, qU] (some qS) := by decide +kernel
theorem cdB4 : (4 : Int32) = cdOf [qA, qB, qS, qU] (some qU) := by decide +kernel
theorem cdC1 : (1 : Int32) = cdOf [qA, qB, qS] (some qA) := by decide +kernel
theorem cdC2 : (2 : Int32) = cdOf [qA, qB, qS] (some qB) := by decide +kernel
theorem cdC3 : (3 : Int32) = cdOf [qA, qB, qS] (some qS) := by decide +kernel
theorem cdD1 : (1 : Int32) = cdOf [qA, qS, qU] (some qA) := by decide +kernel
theorem cdD2 : (2 : Int32) = cdOf [qA, qS, qU] (some qS) := by decide +kernel
theorem cdD3 : (3 : Int32) = cdOf [qA, qS, qU] (some qU) := by decide +kernel
theorem cdE1 : (1 : Int32) = cdOf [qB] (some qB) := by decide +kernel
theorem cdF1 : (1 : Int32) = cdOf [qA] (some qA) := by decide +kernel
theorem lastW_s {w : Nat → Int32} {k n : Nat} : lastW w k (n + 1) = if bt (w n) k = true then some n else lastW w k n := rfl
theorem lastW_eq {w w2 : Nat → Int32} {k : Nat} : ∀ n, (∀ p, p < n → bt (w2 p) k = bt (w p) k) → lastW w2 k n = lastW w k n
  | 0, _ => rfl
  | n + 1, h => by
    rw [lastW_s, lastW_s, h n (by omega), lastW_eq n (fun p hp => h p (by omega))]
theorem zSt_f {r : xRS} {t : Nat} : ∀ n, (∀ k, k < n → zR r (32 * t + k) = false) → zSt r t n = false
  | 0, _ => rfl
  | n + 1, h => by
    show (zSt r t n || (zR r (32 * t + n) && decide (zS r (32 * t + n) ≠ zG r n))) = false
    rw [zSt_f n (fun k hk => h k (by omega)), h n (by omega)]
    rfl
theorem sim_begin {b : Nat → Nat} {d : xDS} {r : xRS} (h : Sim b d r) (t : Int32) : zE (zBegin r t) = cdOf [qA, qS] (yBegin d t).1 ∧ Sim b (yBegin d t).2 (zBegin r t) := by
  unfold zBegin yBegin
  cases hx : ix 8 t with
  | none => exact ⟨(by first | exact cd0 _ | exact cdA1 | exact cdA2 | exact cdB1 | exact cdB2 | exact cdB3 | exact cdB4 | exact cdC1 | exact cdC2 | exact cdC3 | exact cdD1 | exact cdD2 | exact cdD3 | exact cdE1 | exact cdF1), h⟩
  | some j =>
    obtain ⟨hj, -⟩ := ix_some (by decide) hx
    have hT := h.2.2.2.2 j hj
    dsimp only
    rw [← hT.1]
    by_cases ho : xO (yT d j) = true
    · rw [if_pos ho, if_pos ho]
      exact ⟨(by first | exact cd0 _ | exact cdA1 | exact cdA2 | exact cdB1 | exact cdB2 | exact cdB3 | exact cdB4 | exact cdC1 | exact cdC2 | exact cdC3 | exact cdD1 | exact cdD2 | exact cdD3 | exact cdE1 | exact cdF1), h⟩
    · rw [if_neg ho, if_neg ho]
      refine ⟨(by first | exact cd0 _ | exact cdA1 | exact cdA2 | exact cdB1 | exact cdB2 | exact cdB3 | exact cdB4 | exact cdC1 | exact cdC2 | exact cdC3 | exact cdD1 | exact cdD2 | exact cdD3 | exact cdE1 | exact cdF1), ?_⟩
      refine Sim.at (l := yS d) h rfl rfl h.2.2.2.1.1 h.2.2.2.1.2 ?_ ?_
      · refine ⟨by show true = va_up (zO r) j true j; rw [va_up_self], fun _ => ⟨⟨Nat.le_refl _, by show 1 ≤ 5; omega, by show va_up (zP r) j 1 j = 1; rw [va_up_self]⟩, fun k hk => ?_, fun k hk hr => ?_, ?_, fun p k hp hk => ?_⟩⟩
        · show bt 0 k = zClr (zR r) (32 * j) 32 (32 * j + k)
          rw [b_0, zClr_at, if_pos (by omega)]
        · have hr2 : zClr (zR r) (32 * j) 32 (32 * j + k) = true := hr
          rw [zClr_at, if_pos (by omega)] at hr2
          cases hr2
        · show false = zSt _ j 32
          rw [zSt_f]
          intro k hk
          show zClr (zR r) (32 * j) 32 (32 * j + k) = false
          rw [zClr_at, if_pos (by omega)]
        · have hp0 : p = 0 := by
            have : p < 1 := hp
            omega
          subst hp0
          have e1 : lastW (upd (xW (yT d j)) 0 0) k (0 + 1) = none := by
            rw [lastW_s, pk_us, b_0]; rfl
          show zClr (zH r) (160 * j) 32 ((5 * j + 0) * 32 + k) = (lastW (upd (xW (yT d j)) 0 0) k (0 + 1)).isSome ∧ ∀ q, lastW (upd (xW (yT d j)) 0 0) k (0 + 1) = some q → _
          rw [e1, zClr_at, if_pos (by omega)]
          exact ⟨rfl, fun q hq => by cases hq⟩
      · intro t2 ht2 hne
        refine ⟨va_up_ne _ _ hne, va_up_ne _ _ hne, fun k hk => ?_, fun k _ => rfl, fun i h1 h2 => ?_, fun i _ _ => rfl⟩
        · show zClr (zR r) (32 * j) 32 (32 * t2 + k) = _
          rw [zClr_at, if_neg (by omega)]
        · show zClr (zH r) (160 * j) 32 i = _
          rw [zClr_at, if_neg (by omega)]
theorem simT_cl {r : xRS} {j : Nat} {z : xTS} (h : zO r j = false) : SimT r j (tClose z) := ⟨h.symm, fun q => by cases q⟩
theorem sim_leave {b : Nat → Nat} {d : xDS} {r : xRS} (h : Sim b d r) (t : Int32) : zE (zLeave r t) = cdOf [qA, qS] (yLeave d t).1 ∧ Sim b (yLeave d t).2 (zLeave r t) := by
  unfold zLeave yLeave
  cases hx : ix 8 t with
  | none => exact ⟨(by first | exact cd0 _ | exact cdA1 | exact cdA2 | exact cdB1 | exact cdB2 | exact cdB3 | exact cdB4 | exact cdC1 | exact cdC2 | exact cdC3 | exact cdD1 | exact cdD2 | exact cdD3 | exact cdE1 | exact cdF1), h⟩
  | some j =>
    obtain ⟨hj, -⟩ := ix_some (by decide) hx
    have hT := h.2.2.2.2 j hj
    dsimp only
    rw [← hT.1]
    by_cases ho : xO (yT d j) = false
    · rw [if_pos ho, if_pos ho]
      exact ⟨(by first | exact cd0 _ | exact cdA1 | exact cdA2 | exact cdB1 | exact cdB2 | exact cdB3 | exact cdB4 | exact cdC1 | exact cdC2 | exact cdC3 | exact cdD1 | exact cdD2 | exact cdD3 | exact cdE1 | exact cdF1), h⟩
    · rw [if_neg ho, if_neg ho]
      refine ⟨(by first | exact cd0 _ | exact cdA1 | exact cdA2 | exact cdB1 | exact cdB2 | exact cdB3 | exact cdB4 | exact cdC1 | exact cdC2 | exact cdC3 | exact cdD1 | exact cdD2 | exact cdD3 | exact cdE1 | exact cdF1), ?_⟩
      refine Sim.at (l := yS d) h rfl rfl h.2.2.2.1.1 h.2.2.2.1.2 (simT_cl (by show va_up (zO r) j false j = false; rw [va_up_self])) ?_
      intro t2 ht2 hne
      exact ⟨va_up_ne _ _ hne, rfl, fun k _ => rfl, fun k _ => rfl, fun i _ _ => rfl, fun i _ _ => rfl⟩
theorem sim_put {b : Nat → Nat} {d : xDS} {r : xRS} (h : Sim b d r) (hb : ∀ k, k < 32 → b k + 1 < 2 ^ 31) (k : Int32) (x : Int64) : zE (zPut r k x) = cdOf [qB] (yPut d k x).1 ∧ Sim (fun i => b i + 1) (yPut d k x).2 (zPut r k x) := by
  unfold zPut yPut
  cases hx : ix 32 k with
  | none => exact ⟨(by first | exact cd0 _ | exact cdA1 | exact cdA2 | exact cdB1 | exact cdB2 | exact cdB3 | exact cdB4 | exact cdC1 | exact cdC2 | exact cdC3 | exact cdD1 | exact cdD2 | exact cdD3 | exact cdE1 | exact cdF1), Sim.wide h (fun i _ => Nat.le_succ _)⟩
  | some i =>
    obtain ⟨hi, -⟩ := ix_some (by decide) hx
    refine ⟨(by first | exact cd0 _ | exact cdA1 | exact cdA2 | exact cdB1 | exact cdB2 | exact cdB3 | exact cdB4 | exact cdC1 | exact cdC2 | exact cdC3 | exact cdD1 | exact cdD2 | exact cdD3 | exact cdE1 | exact cdF1), ?_⟩
    have h1 := Sim.change (x := x) h hi (hb i hi)
    have h2 : Sim (va_up b i (b i + 1)) (yChange d i x) (0, vp_updL (zC r) i x, zW r, upd (zG r) i (zG r i + 1), r.2.2.2.2) := h1
    refine Sim.wide h2 (fun j _ => ?_)
    by_cases e : j = i
    · subst e; rw [va_up_self]; exact Nat.le_refl _
    · rw [va_up_ne _ _ e]; exact Nat.le_succ _
theorem sim_cell {b : Nat → Nat} {d : xDS} {r : xRS} (h : Sim b d r) (k : Int32) : zE (zCell r k).2 = cdOf [qB] (yCell d k).1 ∧ Sim b d (zCell r k).2 ∧ ((yCell d k).1 = none → (yCell d k).2 = (zCell r k).1) := by
  unfold zCell yCell
  cases hx : ix 32 k with
  | none => exact ⟨(by first | exact cd0 _ | exact cdA1 | exact cdA2 | exact cdB1 | exact cdB2 | exact cdB3 | exact cdB4 | exact cdC1 | exact cdC2 | exact cdC3 | exact cdD1 | exact cdD2 | exact cdD3 | exact cdE1 | exact cdF1), h, fun q => by cases q⟩
  | some i =>
    obtain ⟨hi, -⟩ := ix_some (by decide) hx
    exact ⟨(by first | exact cd0 _ | exact cdA1 | exact cdA2 | exact cdB1 | exact cdB2 | exact cdB3 | exact cdB4 | exact cdC1 | exact cdC2 | exact cdC3 | exact cdD1 | exact cdD2 | exact cdD3 | exact cdE1 | exact cdF1), h, fun _ => h.1 i hi⟩
theorem sim_chd {b : Nat → Nat} {d : xDS} {r : xRS} (h : Sim b d r) (k : Int32) : zE (zChd r k).2 = cdOf [qB] (yChd d k).1 ∧ Sim b d (zChd r k).2 ∧ ((yChd d k).1 = none → (yChd d k).2 = (zChd r k).1) := by
  unfold zChd yChd
  cases hx : ix 32 k with
  | none => exact ⟨(by first | exact cd0 _ | exact cdA1 | exact cdA2 | exact cdB1 | exact cdB2 | exact cdB3 | exact cdB4 | exact cdC1 | exact cdC2 | exact cdC3 | exact cdD1 | exact cdD2 | exact cdD3 | exact cdE1 | exact cdF1), h, fun q => by cases q⟩
  | some i =>
    obtain ⟨hi, -⟩ := ix_some (by decide) hx
    exact ⟨(by first | exact cd0 _ | exact cdA1 | exact cdA2 | exact cdB1 | exact cdB2 | exact cdB3 | exact cdB4 | exact cdC1 | exact cdC2 | exact cdC3 | exact cdD1 | exact cdD2 | exact cdD3 | exact cdE1 | exact cdF1), h, fun _ => h.2.1 i hi⟩
theorem opn_eq {d : xDS} {r : xRS} : ∀ n, (∀ t, t < n → xO (yT d t) = zO r t) → yOpen (yT d) n = zOpn r n
  | 0, _ => rfl
  | n + 1, h => by
    show yOpen (yT d) n + (if xO (yT d n) = true then 1 else 0) = zOpn r n + (if zO r n = true then 1 else 0)
    rw [opn_eq n (fun t ht => h t (by omega)), h n (by omega)]
theorem sim_all {b : Nat → Nat} {d : xDS} {r : xRS} (h : Sim b d r) (w : Int32) : zE (zAll r w).2 = cdOf [qA] (yAll d w).1 ∧ Sim b d (zAll r w).2 ∧ ((yAll d w).1 = none → (yAll d w).2 = (zAll r w).1) := by
  unfold zAll yAll
  cases hx : ix 3 w with
  | none => exact ⟨(by first | exact cd0 _ | exact cdA1 | exact cdA2 | exact cdB1 | exact cdB2 | exact cdB3 | exact cdB4 | exact cdC1 | exact cdC2 | exact cdC3 | exact cdD1 | exact cdD2 | exact cdD3 | exact cdE1 | exact cdF1), h, fun q => by cases q⟩
  | some c =>
    refine ⟨(by first | exact cd0 _ | exact cdA1 | exact cdA2 | exact cdB1 | exact cdB2 | exact cdB3 | exact cdB4 | exact cdC1 | exact cdC2 | exact cdC3 | exact cdD1 | exact cdD2 | exact cdD3 | exact cdE1 | exact cdF1), h, fun _ => ?_⟩
    dsimp only
    rw [opn_eq 8 (fun t ht => (h.2.2.2.2 t ht).1), h.2.2.2.1.1, h.2.2.2.1.2]
theorem tAll_bt {w : Nat → Int32} {k : Nat} : ∀ n, bt (tAll w n) k = (lastW w k n).isSome
  | 0 => b_0 k
  | n + 1 => by
    show bt (tAll w n ||| w n) k = _
    rw [b_or, tAll_bt n, lastW_s]
    cases hb : bt (w n) k
    · rw [if_neg (by decide)]; simp
    · rw [if_pos rfl]; simp
theorem cntR_eq {r : xRS} {t : Nat} {x : Int32} : ∀ n, (∀ k, k < n → bt x k = zR r (32 * t + k)) → bCnt x n = zCntR r t n
  | 0, _ => rfl
  | n + 1, h => by
    show bCnt x n + (if bt x n = true then 1 else 0) = zCntR r t n + (if zR r (32 * t + n) = true then 1 else 0)
    rw [cntR_eq n (fun k hk => h k (by omega)), h n (by omega)]
theorem cntH_eq {r : xRS} {t : Nat} {x : Int32} : ∀ n, (∀ k, k < n → bt x k = zH r (zAt r t k)) → bCnt x n = zCntH r t n
  | 0, _ => rfl
  | n + 1, h => by
    show bCnt x n + (if bt x n = true then 1 else 0) = zCntH r t n + (if zH r (zAt r t n) = true then 1 else 0)
    rw [cntH_eq n (fun k hk => h k (by omega)), h n (by omega)]
/-- what the last part of an open transaction shows -/
theorem SimO.lst {r : xRS} {t k : Nat} {z : xTS} (h : SimO r t z) (hk : k < 32) : zH r (zAt r t k) = (lastW (xW z) k (xP z)).isSome ∧ ∀ q, lastW (xW z) k (xP z) = some q → zW r (zAt r t k) = xV z q k := by
  obtain ⟨⟨h1, h2, h3⟩, -, -, -, h6⟩ := h
  have h7 := h6 (xP z - 1) k (by omega) hk
  rw [Nat.sub_add_cancel h1] at h7
  have e1 : zAt r t k = (5 * t + (xP z - 1)) * 32 + k := by
    unfold zAt
    rw [h3]
    omega
  rw [e1]
  exact h7
theorem sim_count {b : Nat → Nat} {d : xDS} {r : xRS} (h : Sim b d r) (t w : Int32) : zE (zCount r t w).2 = cdOf [qA, qS] (yCount d t w).1 ∧ Sim b d (zCount r t w).2 ∧ ((yCount d t w).1 = none → (yCount d t w).2 = (zCount r t w).1) := by
  unfold zCount yCount
  cases hw : ix 4 w with
  | none =>
    cases hx : ix 8 t with
    | none => exact ⟨(by first | exact cd0 _ | exact cdA1 | exact cdA2 | exact cdB1 | exact cdB2 | exact cdB3 | exact cdB4 | exact cdC1 | exact cdC2 | exact cdC3 | exact cdD1 | exact cdD2 | exact cdD3 | exact cdE1 | exact cdF1), h, fun q => by cases q⟩
    | some j => exact ⟨(by first | exact cd0 _ | exact cdA1 | exact cdA2 | exact cdB1 | exact cdB2 | exact cdB3 | exact cdB4 | exact cdC1 | exact cdC2 | exact cdC3 | exact cdD1 | exact cdD2 | exact cdD3 | exact cdE1 | exact cdF1), h, fun q => by cases q⟩
  | some c =>
    cases hx : ix 8 t with
    | none => exact ⟨(by first | exact cd0 _ | exact cdA1 | exact cdA2 | exact cdB1 | exact cdB2 | exact cdB3 | exact cdB4 | exact cdC1 | exact cdC2 | exact cdC3 | exact cdD1 | exact cdD2 | exact cdD3 | exact cdE1 | exact cdF1), h, fun q => by cases q⟩
    | some j =>
      obtain ⟨hj, -⟩ := ix_some (by decide) hx
      have hT := h.2.2.2.2 j hj
      dsimp only
      rw [← hT.1]
      by_cases ho : xO (yT d j) = false
      · rw [if_pos ho, if_pos ho]
        exact ⟨(by first | exact cd0 _ | exact cdA1 | exact cdA2 | exact cdB1 | exact cdB2 | exact cdB3 | exact cdB4 | exact cdC1 | exact cdC2 | exact cdC3 | exact cdD1 | exact cdD2 | exact cdD3 | exact cdE1 | exact cdF1), h, fun q => by cases q⟩
      · rw [if_neg ho, if_neg ho]
        refine ⟨(by first | exact cd0 _ | exact cdA1 | exact cdA2 | exact cdB1 | exact cdB2 | exact cdB3 | exact cdB4 | exact cdC1 | exact cdC2 | exact cdC3 | exact cdD1 | exact cdD2 | exact cdD3 | exact cdE1 | exact cdF1), h, fun _ => ?_⟩
        have hO := hT.2 (by cases hb : xO (yT d j); exact absurd hb ho; rfl)
        dsimp only
        rw [cntR_eq 32 hO.2.1, cntH_eq (t := j) (r := r) 32 (fun k hk => by rw [tAll_bt]; exact (hO.lst hk).1.symm), ← hO.1.2.2, ← hO.2.2.2.1]
theorem put_w {z : xTS} {P i : Nat} {x : Int64} {q k : Nat} (hi : i < 32) (hk : k < 32) : bt (xW (tPut z P i x) q) k = (bt (xW z q) k || (decide (q = P) && decide (k = i))) := by
  show bt (upd (xW z) P (xW z P ||| sB i) q) k = _
  by_cases e : q = P
  · subst e; rw [pk_us, or_bt hi hk]; simp
  · rw [pk_un e]; simp [e]
theorem put_last {z : xTS} {P i : Nat} {x : Int64} {k : Nat} (hi : i < 32) (hk : k < 32) (n : Nat) (h : k ≠ i ∨ n ≤ P) : lastW (xW (tPut z P i x)) k n = lastW (xW z) k n := by
  refine lastW_eq n (fun p hp => ?_)
  rw [put_w hi hk]
  have : (decide (p = P) && decide (k = i)) = false := by
    rcases h with h | h
    · simp [h]
    · simp [show p ≠ P by omega]
  rw [this, Bool.or_false]
theorem sim_write {b : Nat → Nat} {d : xDS} {r : xRS} (h : Sim b d r) (t k : Int32) (x : Int64) : zE (zWrite r t k x) = cdOf [qA, qB, qS] (yWrite d t k x).1 ∧ Sim b (yWrite d t k x).2 (zWrite r t k x) := by
  unfold zWrite yWrite
  cases hx : ix 8 t with
  | none => exact ⟨(by first | exact cd0 _ | exact cdA1 | exact cdA2 | exact cdB1 | exact cdB2 | exact cdB3 | exact cdB4 | exact cdC1 | exact cdC2 | exact cdC3 | exact cdD1 | exact cdD2 | exact cdD3 | exact cdE1 | exact cdF1), h⟩
  | some j =>
    obtain ⟨hj, -⟩ := ix_some (by decide) hx
    cases hy : ix 32 k with
    | none => exact ⟨(by first | exact cd0 _ | exact cdA1 | exact cdA2 | exact cdB1 | exact cdB2 | exact cdB3 | exact cdB4 | exact cdC1 | exact cdC2 | exact cdC3 | exact cdD1 | exact cdD2 | exact cdD3 | exact cdE1 | exact cdF1), h⟩
    | some i =>
      obtain ⟨hi, -⟩ := ix_some (by decide) hy
      have hT := h.2.2.2.2 j hj
      dsimp only
      rw [← hT.1]
      by_cases ho : xO (yT d j) = false
      · rw [if_pos ho, if_pos ho]
        exact ⟨(by first | exact cd0 _ | exact cdA1 | exact cdA2 | exact cdB1 | exact cdB2 | exact cdB3 | exact cdB4 | exact cdC1 | exact cdC2 | exact cdC3 | exact cdD1 | exact cdD2 | exact cdD3 | exact cdE1 | exact cdF1), h⟩
      · rw [if_neg ho, if_neg ho]
        have ho2 : xO (yT d j) = true := by cases hb : xO (yT d j); exact absurd hb ho; rfl
        obtain ⟨⟨h1, h2, h3⟩, h4, h5, h6, h7⟩ := hT.2 ho2
        generalize hz : yT d j = z at *
        have eA : zAt r j i = (5 * j + (xP z - 1)) * 32 + i := by unfold zAt; rw [h3]; omega
        refine ⟨(by first | exact cd0 _ | exact cdA1 | exact cdA2 | exact cdB1 | exact cdB2 | exact cdB3 | exact cdB4 | exact cdC1 | exact cdC2 | exact cdC3 | exact cdD1 | exact cdD2 | exact cdD3 | exact cdE1 | exact cdF1), ?_⟩
        refine Sim.at (l := yS d) h rfl rfl h.2.2.2.1.1 h.2.2.2.1.2 ?_ ?_
        · refine ⟨hT.1, fun _ => ⟨⟨h1, h2, h3⟩, h4, h5, ?_, fun p q hp hq => ?_⟩⟩
          · exact h6.trans (zSt_eq 32 (by omega) (fun k hk => ⟨rfl, fun _ => rfl, rfl⟩)).symm
          · have hp2 : p < xP z := hp
            obtain ⟨g1, g2⟩ := h7 p q hp2 hq
            show va_up (zH r) (zAt r j i) true ((5 * j + p) * 32 + q) = (lastW (xW (tPut z (xP z - 1) i x)) q (p + 1)).isSome ∧ ∀ q2, lastW (xW (tPut z (xP z - 1) i x)) q (p + 1) = some q2 → vp_updL (zW r) (zAt r j i) x ((5 * j + p) * 32 + q) = va_up (xV z) (xP z - 1) (vp_updL (xV z (xP z - 1)) i x) q2 q
            by_cases e : p = xP z - 1 ∧ q = i
            · obtain ⟨e1, e2⟩ := e
              subst e1; subst e2
              have eb : bt (xW (tPut z (xP z - 1) q x) (xP z - 1)) q = true := by rw [put_w hi hi]; simp
              rw [eA, va_up_self, pk_uLs, lastW_s, eb, if_pos rfl]
              refine ⟨rfl, fun q2 hq2 => ?_⟩
              cases hq2
              rw [va_up_self, pk_uLs]
            · have ne : (5 * j + p) * 32 + q ≠ zAt r j i := by rw [eA]; omega
              have el : lastW (xW (tPut z (xP z - 1) i x)) q (p + 1) = lastW (xW z) q (p + 1) := put_last hi hq (p + 1) (by omega)
              rw [va_up_ne _ _ ne, pk_uLn ne, el]
              refine ⟨g1, fun q2 hq2 => ?_⟩
              rw [g2 q2 hq2]
              by_cases e3 : q2 = xP z - 1
              · subst e3
                rw [va_up_self]
                have hl := lastW_lt hq2
                rw [pk_uLn (by omega)]
              · rw [va_up_ne _ _ e3]
        · intro t2 ht2 hne
          refine ⟨rfl, rfl, fun k _ => rfl, fun k _ => rfl, fun q q1 q2 => ?_, fun q q1 q2 => ?_⟩
          · exact va_up_ne _ _ (by rw [eA]; omega)
          · exact pk_uLn (by rw [eA]; omega)
theorem sim_save {b : Nat → Nat} {d : xDS} {r : xRS} (h : Sim b d r) (t : Int32) : zE (zSave r t).2 = cdOf [qA, qS, qU] (ySave d t).1.1 ∧ Sim b (ySave d t).2 (zSave r t).2 ∧ ((ySave d t).1.1 = none → (ySave d t).1.2 = (zSave r t).1) := by
  unfold zSave ySave
  cases hx : ix 8 t with
  | none => exact ⟨(by first | exact cd0 _ | exact cdA1 | exact cdA2 | exact cdB1 | exact cdB2 | exact cdB3 | exact cdB4 | exact cdC1 | exact cdC2 | exact cdC3 | exact cdD1 | exact cdD2 | exact cdD3 | exact cdE1 | exact cdF1), h, fun q => by cases q⟩
  | some j =>
    obtain ⟨hj, -⟩ := ix_some (by decide) hx
    have hT := h.2.2.2.2 j hj
    dsimp only
    rw [← hT.1]
    by_cases ho : xO (yT d j) = false
    · rw [if_pos ho, if_pos ho]
      exact ⟨(by first | exact cd0 _ | exact cdA1 | exact cdA2 | exact cdB1 | exact cdB2 | exact cdB3 | exact cdB4 | exact cdC1 | exact cdC2 | exact cdC3 | exact cdD1 | exact cdD2 | exact cdD3 | exact cdE1 | exact cdF1), h, fun q => by cases q⟩
    · rw [if_neg ho, if_neg ho]
      have ho2 : xO (yT d j) = true := by cases hb : xO (yT d j); exact absurd hb ho; rfl
      have hO := hT.2 ho2
      obtain ⟨⟨h1, h2, h3⟩, h4, h5, h6, h7⟩ := hO
      generalize hz : yT d j = z at *
      rw [h3]
      by_cases h8 : 5 ≤ xP z
      · rw [if_pos h8, if_pos (by omega)]
        exact ⟨(by first | exact cd0 _ | exact cdA1 | exact cdA2 | exact cdB1 | exact cdB2 | exact cdB3 | exact cdB4 | exact cdC1 | exact cdC2 | exact cdC3 | exact cdD1 | exact cdD2 | exact cdD3 | exact cdE1 | exact cdF1), h, fun q => by cases q⟩
      · rw [if_neg h8, if_neg (by omega)]
        have eA : zAt r j 0 = (5 * j + (xP z - 1)) * 32 := by unfold zAt; rw [h3]; omega
        refine ⟨(by first | exact cd0 _ | exact cdA1 | exact cdA2 | exact cdB1 | exact cdB2 | exact cdB3 | exact cdB4 | exact cdC1 | exact cdC2 | exact cdC3 | exact cdD1 | exact cdD2 | exact cdD3 | exact cdE1 | exact cdF1), ?_, fun _ => rfl⟩
        refine Sim.at (l := yS d) h rfl rfl h.2.2.2.1.1 h.2.2.2.1.2 ?_ ?_
        · refine ⟨hT.1, fun _ => ⟨⟨by show 1 ≤ xP z + 1; omega, by show xP z + 1 ≤ 5; omega, by show va_up (zP r) j (xP z + 1) j = xP z + 1; rw [va_up_self]⟩, h4, h5, ?_, fun p k hp hk => ?_⟩⟩
          · exact h6.trans (zSt_eq 32 (by omega) (fun k hk => ⟨rfl, fun _ => rfl, rfl⟩)).symm
          · have hp2 : p < xP z + 1 := hp
            show zCpB (zH r) (zAt r j 0) (zAt r j 0 + 32) 32 ((5 * j + p) * 32 + k) = (lastW (upd (xW z) (xP z) 0) k (p + 1)).isSome ∧ ∀ q, lastW (upd (xW z) (xP z) 0) k (p + 1) = some q → zCpL (zW r) (zAt r j 0) (zAt r j 0 + 32) 32 ((5 * j + p) * 32 + k) = xV z q k
            have el : ∀ n, n ≤ xP z → lastW (upd (xW z) (xP z) 0) k n = lastW (xW z) k n := fun n hn => lastW_eq n (fun q hq => by rw [pk_un (by omega)])
            rw [zCpB_at 32 _ (by omega), zCpL_at 32 _ (by omega)]
            by_cases e : p = xP z
            · subst e
              rw [if_pos (by rw [eA]; omega), if_pos (by rw [eA]; omega), lastW_s, pk_us, b_0, if_neg (by decide), el _ (Nat.le_refl _)]
              have h9 := h7 (xP z - 1) k (by omega) hk
              rw [Nat.sub_add_cancel h1] at h9
              have e9 : zAt r j 0 + ((5 * j + xP z) * 32 + k - (zAt r j 0 + 32)) = (5 * j + (xP z - 1)) * 32 + k := by rw [eA]; omega
              rw [e9]
              exact h9
            · rw [if_neg (by rw [eA]; omega), if_neg (by rw [eA]; omega), el _ (by omega)]
              exact h7 p k (by omega) hk
        · intro t2 ht2 hne
          refine ⟨rfl, va_up_ne _ _ hne, fun k _ => rfl, fun k _ => rfl, fun q q1 q2 => ?_, fun q q1 q2 => ?_⟩
          · show zCpB (zH r) (zAt r j 0) (zAt r j 0 + 32) 32 q = _
            rw [zCpB_at 32 _ (by omega), if_neg (by rw [eA]; omega)]
          · show zCpL (zW r) (zAt r j 0) (zAt r j 0 + 32) 32 q = _
            rw [zCpL_at 32 _ (by omega), if_neg (by rw [eA]; omega)]
theorem sim_back {b : Nat → Nat} {d : xDS} {r : xRS} (h : Sim b d r) (t : Int32) : zE (zBack r t) = cdOf [qA, qS, qU] (yBack d t).1 ∧ Sim b (yBack d t).2 (zBack r t) := by
  unfold zBack yBack
  cases hx : ix 8 t with
  | none => exact ⟨(by first | exact cd0 _ | exact cdA1 | exact cdA2 | exact cdB1 | exact cdB2 | exact cdB3 | exact cdB4 | exact cdC1 | exact cdC2 | exact cdC3 | exact cdD1 | exact cdD2 | exact cdD3 | exact cdE1 | exact cdF1), h⟩
  | some j =>
    obtain ⟨hj, -⟩ := ix_some (by decide) hx
    have hT := h.2.2.2.2 j hj
    dsimp only
    rw [← hT.1]
    by_cases ho : xO (yT d j) = false
    · rw [if_pos ho, if_pos ho]
      exact ⟨(by first | exact cd0 _ | exact cdA1 | exact cdA2 | exact cdB1 | exact cdB2 | exact cdB3 | exact cdB4 | exact cdC1 | exact cdC2 | exact cdC3 | exact cdD1 | exact cdD2 | exact cdD3 | exact cdE1 | exact cdF1), h⟩
    · rw [if_neg ho, if_neg ho]
      have ho2 : xO (yT d j) = true := by cases hb : xO (yT d j); exact absurd hb ho; rfl
      obtain ⟨⟨h1, h2, h3⟩, h4, h5, h6, h7⟩ := hT.2 ho2
      generalize hz : yT d j = z at *
      rw [h3]
      by_cases h8 : xP z ≤ 1
      · rw [if_pos h8, if_pos (by omega)]
        exact ⟨(by first | exact cd0 _ | exact cdA1 | exact cdA2 | exact cdB1 | exact cdB2 | exact cdB3 | exact cdB4 | exact cdC1 | exact cdC2 | exact cdC3 | exact cdD1 | exact cdD2 | exact cdD3 | exact cdE1 | exact cdF1), h⟩
      · rw [if_neg h8, if_neg (by omega)]
        refine ⟨(by first | exact cd0 _ | exact cdA1 | exact cdA2 | exact cdB1 | exact cdB2 | exact cdB3 | exact cdB4 | exact cdC1 | exact cdC2 | exact cdC3 | exact cdD1 | exact cdD2 | exact cdD3 | exact cdE1 | exact cdF1), ?_⟩
        refine Sim.at (l := yS d) h rfl rfl h.2.2.2.1.1 h.2.2.2.1.2 ?_ ?_
        · refine ⟨hT.1, fun _ => ⟨⟨by show 1 ≤ xP z - 1; omega, by show xP z - 1 ≤ 5; omega, by show va_up (zP r) j (xP z - 1) j = xP z - 1; rw [va_up_self]⟩, h4, h5, ?_, fun p k hp hk => ?_⟩⟩
          · exact h6.trans (zSt_eq 32 (by omega) (fun k hk => ⟨rfl, fun _ => rfl, rfl⟩)).symm
          · exact h7 p k (Nat.lt_of_lt_of_le hp (Nat.sub_le _ _)) hk
        · intro t2 ht2 hne
          exact ⟨rfl, va_up_ne _ _ hne, fun k _ => rfl, fun k _ => rfl, fun i _ _ => rfl, fun i _ _ => rfl⟩
theorem mrg_fix {z : xTS} {p : Nat} : ∀ n, xO (tMrg z p n) = xO z ∧ xS (tMrg z p n) = xS z ∧ xR (tMrg z p n) = xR z ∧ xP (tMrg z p n) = xP z
  | 0 => ⟨rfl, rfl, rfl, rfl⟩
  | n + 1 => by
    obtain ⟨h1, h2, h3, h4⟩ := mrg_fix (z := z) (p := p) n
    unfold tMrg
    by_cases hb : bt (xW (tMrg z p n) (p + 1)) n = true
    · rw [if_pos hb]; exact ⟨h1, h2, h3, h4⟩
    · rw [if_neg hb]; exact ⟨h1, h2, h3, h4⟩
theorem mrg_at {z : xTS} {p : Nat} : ∀ n, n ≤ 32 → (∀ q k, k < 32 → bt (xW (tMrg z p n) q) k = (bt (xW z q) k || (decide (q = p) && (decide (k < n) && bt (xW z (p + 1)) k)))) ∧ ∀ q k, xV (tMrg z p n) q k = if q = p ∧ k < n ∧ bt (xW z (p + 1)) k = true then xV z (p + 1) k else xV z q k
  | 0, _ => ⟨fun q k _ => by simp [tMrg], fun q k => by rw [if_neg (by omega)]; rfl⟩
  | n + 1, hn => by
    obtain ⟨hw, hv⟩ := mrg_at (z := z) (p := p) n (by omega)
    have hl : bt (xW (tMrg z p n) (p + 1)) n = bt (xW z (p + 1)) n := by rw [hw (p + 1) n (by omega)]; simp
    have hv1 : xV (tMrg z p n) (p + 1) n = xV z (p + 1) n := by rw [hv, if_neg (by omega)]
    unfold tMrg
    rw [hl]
    by_cases hb : bt (xW z (p + 1)) n = true
    · rw [if_pos hb, hv1]
      refine ⟨fun q k hk => ?_, fun q k => ?_⟩
      · rw [put_w (by omega) hk, hw q k hk]
        by_cases e : k = n
        · subst e
          simp [hb]
        · have e1 : decide (k < n + 1) = decide (k < n) := by rw [decide_eq_decide]; omega
          simp [e, e1]
      · show va_up (xV (tMrg z p n)) p (vp_updL (xV (tMrg z p n) p) n (xV z (p + 1) n)) q k = _
        by_cases e : q = p
        · subst e
          rw [va_up_self]
          by_cases e2 : k = n
          · subst e2
            rw [pk_uLs, if_pos ⟨rfl, by omega, hb⟩]
          · rw [pk_uLn e2, hv]
            by_cases e3 : k < n ∧ bt (xW z (q + 1)) k = true
            · rw [if_pos ⟨rfl, e3⟩, if_pos ⟨rfl, by omega, e3.2⟩]
            · rw [if_neg (fun c => e3 c.2), if_neg (fun c => e3 ⟨by omega, c.2.2⟩)]
        · rw [va_up_ne _ _ e, hv, if_neg (fun c => e c.1), if_neg (fun c => e c.1)]
    · rw [if_neg hb]
      refine ⟨fun q k hk => ?_, fun q k => ?_⟩
      · rw [hw q k hk]
        by_cases e : k = n
        · subst e
          have hb2 : bt (xW z (p + 1)) k = false := by cases hc : bt (xW z (p + 1)) k; rfl; exact absurd hc hb
          rw [hb2]; simp
        · have e1 : decide (k < n + 1) = decide (k < n) := by rw [decide_eq_decide]; omega
          rw [e1]
      · rw [hv]
        by_cases e3 : q = p ∧ k < n ∧ bt (xW z (p + 1)) k = true
        · rw [if_pos e3, if_pos ⟨e3.1, by omega, e3.2.2⟩]
        · rw [if_neg e3, if_neg (fun c => e3 ⟨c.1, by
            have : k ≠ n := fun q2 => by subst q2; exact hb c.2.2
            omega, c.2.2⟩)]
theorem sim_keep {b : Nat → Nat} {d : xDS} {r : xRS} (h : Sim b d r) (t : Int32) : zE (zKeep r t) = cdOf [qA, qS, qU] (yKeep d t).1 ∧ Sim b (yKeep d t).2 (zKeep r t) := by
  unfold zKeep yKeep
  cases hx : ix 8 t with
  | none => exact ⟨(by first | exact cd0 _ | exact cdA1 | exact cdA2 | exact cdB1 | exact cdB2 | exact cdB3 | exact cdB4 | exact cdC1 | exact cdC2 | exact cdC3 | exact cdD1 | exact cdD2 | exact cdD3 | exact cdE1 | exact cdF1), h⟩
  | some j =>
    obtain ⟨hj, -⟩ := ix_some (by decide) hx
    have hT := h.2.2.2.2 j hj
    dsimp only
    rw [← hT.1]
    by_cases ho : xO (yT d j) = false
    · rw [if_pos ho, if_pos ho]
      exact ⟨(by first | exact cd0 _ | exact cdA1 | exact cdA2 | exact cdB1 | exact cdB2 | exact cdB3 | exact cdB4 | exact cdC1 | exact cdC2 | exact cdC3 | exact cdD1 | exact cdD2 | exact cdD3 | exact cdE1 | exact cdF1), h⟩
    · rw [if_neg ho, if_neg ho]
      have ho2 : xO (yT d j) = true := by cases hb : xO (yT d j); exact absurd hb ho; rfl
      obtain ⟨⟨h1, h2, h3⟩, h4, h5, h6, h7⟩ := hT.2 ho2
      generalize hz : yT d j = z at *
      rw [h3]
      by_cases h8 : xP z ≤ 1
      · rw [if_pos h8, if_pos (by omega)]
        exact ⟨(by first | exact cd0 _ | exact cdA1 | exact cdA2 | exact cdB1 | exact cdB2 | exact cdB3 | exact cdB4 | exact cdC1 | exact cdC2 | exact cdC3 | exact cdD1 | exact cdD2 | exact cdD3 | exact cdE1 | exact cdF1), h⟩
      · rw [if_neg h8, if_neg (by omega)]
        obtain ⟨m1, m2, m3, m4⟩ := mrg_fix (z := z) (p := xP z - 2) 32
        obtain ⟨mw, mv⟩ := mrg_at (z := z) (p := xP z - 2) 32 (Nat.le_refl _)
        have ep : xP z - 2 + 1 = xP z - 1 := by omega
        rw [ep] at mw mv
        have eA : zAt r j 0 = (5 * j + (xP z - 1)) * 32 := by unfold zAt; rw [h3]; omega
        generalize hm : tMrg z (xP z - 2) 32 = zm at *
        refine ⟨(by first | exact cd0 _ | exact cdA1 | exact cdA2 | exact cdB1 | exact cdB2 | exact cdB3 | exact cdB4 | exact cdC1 | exact cdC2 | exact cdC3 | exact cdD1 | exact cdD2 | exact cdD3 | exact cdE1 | exact cdF1), ?_⟩
        refine Sim.at (l := yS d) h rfl rfl h.2.2.2.1.1 h.2.2.2.1.2 ?_ ?_
        · refine ⟨m1.trans hT.1, fun _ => ⟨⟨by show 1 ≤ xP zm - 1; omega, by show xP zm - 1 ≤ 5; omega, by show va_up (zP r) j (xP z - 1) j = xP zm - 1; rw [va_up_self, m4]⟩, fun k hk => ?_, h5, ?_, fun p k hp hk => ?_⟩⟩
          · show bt (xR zm) k = _
            rw [m3]; exact h4 k hk
          · show xS zm = _
            rw [m2]
            exact h6.trans (zSt_eq 32 (by omega) (fun k hk => ⟨rfl, fun _ => rfl, rfl⟩)).symm
          · have hp2 : p < xP z - 1 := by
              have : p < xP zm - 1 := hp
              omega
            show zCpB (zH r) (zAt r j 0) (zAt r j 0 - 32) 32 ((5 * j + p) * 32 + k) = (lastW (xW zm) k (p + 1)).isSome ∧ ∀ q, lastW (xW zm) k (p + 1) = some q → zCpL (zW r) (zAt r j 0) (zAt r j 0 - 32) 32 ((5 * j + p) * 32 + k) = xV zm q k
            have el : ∀ n, n ≤ xP z - 2 → lastW (xW zm) k n = lastW (xW z) k n := fun n hn => lastW_eq n (fun q hq => by rw [mw q k hk]; simp [show q ≠ xP z - 2 by omega])
            rw [zCpB_at 32 _ (by rw [eA]; omega), zCpL_at 32 _ (by rw [eA]; omega)]
            by_cases e : p = xP z - 2
            · subst e
              have e9 : zAt r j 0 + ((5 * j + (xP z - 2)) * 32 + k - (zAt r j 0 - 32)) = (5 * j + (xP z - 1)) * 32 + k := by rw [eA]; omega
              rw [if_pos (by rw [eA]; omega), if_pos (by rw [eA]; omega), e9, lastW_s, mw _ k hk, el _ (Nat.le_refl _)]
              have h9 := h7 (xP z - 1) k (by omega) hk
              rw [lastW_s] at h9
              have e10 : lastW (xW z) k (xP z - 1) = if bt (xW z (xP z - 2)) k = true then some (xP z - 2) else lastW (xW z) k (xP z - 2) := by
                have := lastW_s (w := xW z) (k := k) (n := xP z - 2)
                rw [ep] at this
                exact this
              rw [e10] at h9
              cases hb1 : bt (xW z (xP z - 1)) k
              · rw [hb1, if_neg (by decide)] at h9
                cases hb2 : bt (xW z (xP z - 2)) k
                · rw [hb2, if_neg (by decide)] at h9
                  simp only [hb1, hb2]
                  rw [if_neg (by simp)]
                  refine ⟨h9.1, fun q hq => ?_⟩
                  have hlt := lastW_lt hq
                  rw [h9.2 q hq, mv, if_neg (by omega)]
                · rw [hb2, if_pos rfl] at h9
                  simp only [hb1, hb2]
                  rw [if_pos (by simp)]
                  refine ⟨h9.1, fun q hq => ?_⟩
                  cases hq
                  rw [h9.2 _ rfl, mv, if_neg (by rw [hb1]; simp)]
              · rw [hb1, if_pos rfl] at h9
                simp only [hb1]
                rw [if_pos (by simp [hk])]
                refine ⟨h9.1, fun q hq => ?_⟩
                cases hq
                rw [h9.2 _ rfl, mv, if_pos ⟨rfl, hk, hb1⟩]
            · rw [if_neg (by rw [eA]; omega), if_neg (by rw [eA]; omega), el _ (by omega)]
              obtain ⟨g1, g2⟩ := h7 p k (by omega) hk
              refine ⟨g1, fun q hq => ?_⟩
              have hlt := lastW_lt hq
              rw [g2 q hq, mv, if_neg (by omega)]
        · intro t2 ht2 hne
          refine ⟨rfl, va_up_ne _ _ hne, fun k _ => rfl, fun k _ => rfl, fun q q1 q2 => ?_, fun q q1 q2 => ?_⟩
          · show zCpB (zH r) (zAt r j 0) (zAt r j 0 - 32) 32 q = _
            rw [zCpB_at 32 _ (by rw [eA]; omega), if_neg (by rw [eA]; omega)]
          · show zCpL (zW r) (zAt r j 0) (zAt r j 0 - 32) 32 q = _
            rw [zCpL_at 32 _ (by rw [eA]; omega), if_neg (by rw [eA]; omega)]
theorem zSt_read {r : xRS} {t i : Nat} {S : Nat → Int32} {B : Nat → Bool} {r2 : xRS} (hR : zR r2 = va_up (zR r) (32 * t + i) true) (hG : zG r2 = zG r) (hS : zS r2 = if zR r (32 * t + i) = true then zS r else upd (zS r) (32 * t + i) (zG r i)) : ∀ n, zSt r2 t n = zSt r t n
  | 0 => rfl
  | n + 1 => by
    show (zSt r2 t n || (zR r2 (32 * t + n) && decide (zS r2 (32 * t + n) ≠ zG r2 n))) = (zSt r t n || (zR r (32 * t + n) && decide (zS r (32 * t + n) ≠ zG r n)))
    rw [zSt_read (S := S) (B := B) hR hG hS n, hR, hG, hS]
    by_cases e : n = i
    · subst e
      rw [va_up_self]
      cases hb : zR r (32 * t + n)
      · rw [if_neg (by decide), pk_us]; simp
      · rw [if_pos rfl]
    · rw [va_up_ne _ _ (by omega)]
      by_cases hb : zR r (32 * t + i) = true
      · rw [if_pos hb]
      · rw [if_neg hb, pk_un (by omega)]
theorem sim_read {b : Nat → Nat} {d : xDS} {r : xRS} (h : Sim b d r) (hb : ∀ k, k < 32 → b k < 2 ^ 31) (t k : Int32) : zE (zRead r t k).2 = cdOf [qA, qB, qS, qU] (yRead d t k).1.1 ∧ Sim b (yRead d t k).2 (zRead r t k).2 ∧ ((yRead d t k).1.1 = none → (yRead d t k).1.2 = (zRead r t k).1) := by
  unfold zRead yRead
  cases hx : ix 8 t with
  | none => exact ⟨(by first | exact cd0 _ | exact cdA1 | exact cdA2 | exact cdB1 | exact cdB2 | exact cdB3 | exact cdB4 | exact cdC1 | exact cdC2 | exact cdC3 | exact cdD1 | exact cdD2 | exact cdD3 | exact cdE1 | exact cdF1), h, fun q => by cases q⟩
  | some j =>
    obtain ⟨hj, -⟩ := ix_some (by decide) hx
    cases hy : ix 32 k with
    | none => exact ⟨(by first | exact cd0 _ | exact cdA1 | exact cdA2 | exact cdB1 | exact cdB2 | exact cdB3 | exact cdB4 | exact cdC1 | exact cdC2 | exact cdC3 | exact cdD1 | exact cdD2 | exact cdD3 | exact cdE1 | exact cdF1), h, fun q => by cases q⟩
    | some i =>
      obtain ⟨hi, -⟩ := ix_some (by decide) hy
      have hT := h.2.2.2.2 j hj
      dsimp only
      rw [← hT.1]
      by_cases ho : xO (yT d j) = false
      · rw [if_pos ho, if_pos ho]
        exact ⟨(by first | exact cd0 _ | exact cdA1 | exact cdA2 | exact cdB1 | exact cdB2 | exact cdB3 | exact cdB4 | exact cdC1 | exact cdC2 | exact cdC3 | exact cdD1 | exact cdD2 | exact cdD3 | exact cdE1 | exact cdF1), h, fun q => by cases q⟩
      · rw [if_neg ho, if_neg ho]
        have ho2 : xO (yT d j) = true := by cases hc : xO (yT d j); exact absurd hc ho; rfl
        have hO := hT.2 ho2
        obtain ⟨l1, l2⟩ := hO.lst hi
        obtain ⟨⟨h1, h2, h3⟩, h4, h5, h6, h7⟩ := hO
        generalize hz : yT d j = z at *
        rw [l1]
        cases hl : lastW (xW z) i (xP z) with
        | some q =>
          rw [if_pos (show (some q).isSome = true from rfl)]
          exact ⟨(by first | exact cd0 _ | exact cdA1 | exact cdA2 | exact cdB1 | exact cdB2 | exact cdB3 | exact cdB4 | exact cdC1 | exact cdC2 | exact cdC3 | exact cdD1 | exact cdD2 | exact cdD3 | exact cdE1 | exact cdF1), h, fun _ => (l2 q hl).symm⟩
        | none =>
          rw [if_neg (by decide), ← h6]
          dsimp only
          by_cases hs : xS z = true
          · rw [if_pos hs, if_pos hs]
            refine ⟨(by first | exact cd0 _ | exact cdA1 | exact cdA2 | exact cdB1 | exact cdB2 | exact cdB3 | exact cdB4 | exact cdC1 | exact cdC2 | exact cdC3 | exact cdD1 | exact cdD2 | exact cdD3 | exact cdE1 | exact cdF1), ?_, fun q => by cases q⟩
            unfold yEnd
            rw [hz]
            refine Sim.at (l := yS d + 1) h rfl rfl h.2.2.2.1.1 (by rw [h.2.2.2.1.2]) (simT_cl (by show va_up (zO r) j false j = false; rw [va_up_self])) ?_
            intro t2 ht2 hne
            exact ⟨va_up_ne _ _ hne, rfl, fun k _ => rfl, fun k _ => rfl, fun i _ _ => rfl, fun i _ _ => rfl⟩
          · rw [if_neg hs, if_neg hs]
            refine ⟨(by first | exact cd0 _ | exact cdA1 | exact cdA2 | exact cdB1 | exact cdB2 | exact cdB3 | exact cdB4 | exact cdC1 | exact cdC2 | exact cdC3 | exact cdD1 | exact cdD2 | exact cdD3 | exact cdE1 | exact cdF1), ?_, fun _ => h.1 i hi⟩
            refine Sim.at (l := yS d) h rfl rfl h.2.2.2.1.1 h.2.2.2.1.2 ?_ ?_
            · refine ⟨hT.1, fun _ => ⟨⟨h1, h2, h3⟩, fun q hq => ?_, fun q hq hr => ?_, ?_, h7⟩⟩
              · show bt (xR z ||| sB i) q = va_up (zR r) (32 * j + i) true (32 * j + q)
                rw [or_bt hi hq, h4 q hq]
                by_cases e : q = i
                · subst e; rw [va_up_self]; simp
                · rw [va_up_ne _ _ (by omega)]; simp [e]
              · show ∃ a c : Nat, a ≤ c ∧ c < 2 ^ 31 ∧ (if zR r (32 * j + i) = true then zS r else upd (zS r) (32 * j + i) (zG r i)) (32 * j + q) = nI a ∧ zG r q = nI c
                by_cases e : zR r (32 * j + q) = true
                · obtain ⟨a, c, q1, q2, q3, q4⟩ := h5 q hq e
                  refine ⟨a, c, q1, q2, ?_, q4⟩
                  by_cases e2 : zR r (32 * j + i) = true
                  · rw [if_pos e2]; exact q3
                  · rw [if_neg e2, pk_un (fun w => e2 (by rw [← w]; exact e))]; exact q3
                · have hr2 : va_up (zR r) (32 * j + i) true (32 * j + q) = true := hr
                  have e3 : q = i := by
                    by_cases e4 : q = i
                    · exact e4
                    · rw [va_up_ne _ _ (by omega)] at hr2; exact absurd hr2 e
                  subst e3
                  obtain ⟨c, q1, q2⟩ := h.2.2.1 q hq
                  have := hb q hq
                  exact ⟨c, c, Nat.le_refl _, by omega, by rw [if_neg e, pk_us]; exact q2, q2⟩
              · show xS z = _
                rw [h6]
                exact (zSt_read (r := r) (t := j) (i := i) (S := zS r) (B := zR r) (r2 := (0, zC r, zW r, zG r, zP r, if zR r (32 * j + i) = true then zS r else upd (zS r) (32 * j + i) (zG r i), zH r, va_up (zR r) (32 * j + i) true, zO r, zD r, zL r)) rfl rfl rfl 32).symm
            · intro t2 ht2 hne
              refine ⟨rfl, rfl, fun q hq => ?_, fun q hq => ?_, fun i _ _ => rfl, fun i _ _ => rfl⟩
              · exact va_up_ne _ _ (by omega)
              · show (if zR r (32 * j + i) = true then zS r else upd (zS r) (32 * j + i) (zG r i)) (32 * t2 + q) = _
                by_cases e2 : zR r (32 * j + i) = true
                · rw [if_pos e2]
                · rw [if_neg e2, pk_un (by omega)]
/-- the done transaction stays as it is while its cells change -/
theorem done_t {j : Nat} {d : xDS} (hj : j < 8) (hc : xO (yT d j) = false) : ∀ k, yT (yDoneN j d k) j = yT d j
  | 0 => rfl
  | k + 1 => by
    have ih := done_t hj hc k
    unfold yDoneN
    cases hl : lastW (xW (yT (yDoneN j d k) j)) k (xP (yT (yDoneN j d k) j)) with
    | none => exact ih
    | some p =>
      show yNote (yT (yDoneN j d k)) k 8 j = _
      rw [yNote_at, if_pos hj, ih, tNote_cl hc]
theorem sim_doneN {b : Nat → Nat} {d : xDS} {r : xRS} {j : Nat} {z : xTS} (hj : j < 8) (hz : yT d j = tClose z) (hb : ∀ k, k < 32 → b k + 1 < 2 ^ 31) (hL : ∀ k, k < 32 → zH r (zAt r j k) = (lastW (xW z) k (xP z)).isSome ∧ ∀ q, lastW (xW z) k (xP z) = some q → zW r (zAt r j k) = xV z q k) (h : Sim b d r) :
    ∀ n, n ≤ 32 → Sim (fun i => if i < n then b i + 1 else b i) (yDoneN j d n) (zE r, (zDoneN r j n).1, zW r, (zDoneN r j n).2, r.2.2.2.2)
  | 0, _ => Sim.wide h (fun k _ => by rw [if_neg (by omega)]; exact Nat.le_refl _)
  | n + 1, hn => by
    have ih := sim_doneN hj hz hb hL h n (by omega)
    obtain ⟨l1, l2⟩ := hL n (by omega)
    have ht := done_t (d := d) hj (by rw [hz]; rfl) n
    have ew : lastW (xW (yT (yDoneN j d n) j)) n (xP (yT (yDoneN j d n) j)) = lastW (xW z) n (xP z) := by rw [ht, hz]; rfl
    have wd : ∀ k, k < 32 → (fun i => if i < n then b i + 1 else b i) k ≤ (fun i => if i < n + 1 then b i + 1 else b i) k := fun k _ => by
      by_cases e : k < n
      · simp [e, show k < n + 1 by omega]
      · by_cases e2 : k < n + 1
        · simp [e, e2]
        · simp [e, e2]
    unfold yDoneN zDoneN
    rw [ew, l1]
    cases hl : lastW (xW z) n (xP z) with
    | none =>
      rw [if_neg (by decide)]
      exact Sim.wide ih wd
    | some p =>
      rw [if_pos (show (some p).isSome = true from rfl)]
      have hv : xV (yT (yDoneN j d n) j) p n = zW r (zAt r j n) := by rw [ht, hz]; exact (l2 p hl).symm
      dsimp only
      rw [hv]
      have hcg := Sim.change (x := zW r (zAt r j n)) ih (k := n) (by omega) (by rw [if_neg (by omega)]; exact hb n (by omega))
      refine Sim.wide (b := va_up (fun i => if i < n then b i + 1 else b i) n ((if n < n then b n + 1 else b n) + 1)) hcg (fun k hk => ?_)
      by_cases e : k = n
      · subst e
        rw [va_up_self, if_neg (by omega), if_pos (by omega)]
        exact Nat.le_refl _
      · rw [va_up_ne _ _ e]
        exact wd k hk
theorem sim_done {b : Nat → Nat} {d : xDS} {r : xRS} (h : Sim b d r) (hb : ∀ k, k < 32 → b k + 1 < 2 ^ 31) (t : Int32) : zE (zDone r t).2 = cdOf [qA, qS] (yDone d t).1.1 ∧ Sim (fun i => b i + 1) (yDone d t).2 (zDone r t).2 ∧ ((yDone d t).1.1 = none → (yDone d t).1.2 = (zDone r t).1) := by
  have hw : ∀ {d2 : xDS} {r2 : xRS}, Sim b d2 r2 → Sim (fun i => b i + 1) d2 r2 := fun q => Sim.wide q (fun i _ => Nat.le_succ _)
  unfold zDone yDone
  cases hx : ix 8 t with
  | none => exact ⟨(by first | exact cd0 _ | exact cdA1 | exact cdA2 | exact cdB1 | exact cdB2 | exact cdB3 | exact cdB4 | exact cdC1 | exact cdC2 | exact cdC3 | exact cdD1 | exact cdD2 | exact cdD3 | exact cdE1 | exact cdF1), hw h, fun q => by cases q⟩
  | some j =>
    obtain ⟨hj, -⟩ := ix_some (by decide) hx
    have hT := h.2.2.2.2 j hj
    dsimp only
    rw [← hT.1]
    by_cases ho : xO (yT d j) = false
    · rw [if_pos ho, if_pos ho]
      exact ⟨(by first | exact cd0 _ | exact cdA1 | exact cdA2 | exact cdB1 | exact cdB2 | exact cdB3 | exact cdB4 | exact cdC1 | exact cdC2 | exact cdC3 | exact cdD1 | exact cdD2 | exact cdD3 | exact cdE1 | exact cdF1), hw h, fun q => by cases q⟩
    · rw [if_neg ho, if_neg ho]
      have ho2 : xO (yT d j) = true := by cases hc : xO (yT d j); exact absurd hc ho; rfl
      have hO := hT.2 ho2
      have hlst := fun k (hk : k < 32) => hO.lst hk
      obtain ⟨⟨h1, h2, h3⟩, h4, h5, h6, h7⟩ := hO
      rw [← h6]
      have hcl : zO (zE r, zC r, zW r, zG r, zP r, zS r, zH r, zR r, va_up (zO r) j false, zD r, zL r) j = false := va_up_self _ _ _
      by_cases hs : xS (yT d j) = true
      · rw [if_pos hs, if_pos hs]
        refine ⟨(by first | exact cd0 _ | exact cdA1 | exact cdA2 | exact cdB1 | exact cdB2 | exact cdB3 | exact cdB4 | exact cdC1 | exact cdC2 | exact cdC3 | exact cdD1 | exact cdD2 | exact cdD3 | exact cdE1 | exact cdF1), hw ?_, fun _ => rfl⟩
        unfold yEnd
        refine Sim.at (l := yS d + 1) h rfl rfl h.2.2.2.1.1 (by rw [h.2.2.2.1.2]) (simT_cl hcl) ?_
        intro t2 ht2 hne
        exact ⟨va_up_ne _ _ hne, rfl, fun k _ => rfl, fun k _ => rfl, fun i _ _ => rfl, fun i _ _ => rfl⟩
      · rw [if_neg hs, if_neg hs]
        refine ⟨(by first | exact cd0 _ | exact cdA1 | exact cdA2 | exact cdB1 | exact cdB2 | exact cdB3 | exact cdB4 | exact cdC1 | exact cdC2 | exact cdC3 | exact cdD1 | exact cdD2 | exact cdD3 | exact cdE1 | exact cdF1), ?_, fun _ => rfl⟩
        have hS : Sim b (ySet d j (tClose (yT d j))) (zE r, zC r, zW r, zG r, zP r, zS r, zH r, zR r, va_up (zO r) j false, zD r, zL r) := by
          refine Sim.at (l := yS d) h rfl rfl h.2.2.2.1.1 h.2.2.2.1.2 (simT_cl hcl) ?_
          intro t2 ht2 hne
          exact ⟨va_up_ne _ _ hne, rfl, fun k _ => rfl, fun k _ => rfl, fun i _ _ => rfl, fun i _ _ => rfl⟩
        have hD := sim_doneN (r := (zE r, zC r, zW r, zG r, zP r, zS r, zH r, zR r, va_up (zO r) j false, zD r, zL r)) (d := ySet d j (tClose (yT d j))) (j := j) (z := yT d j) hj (by show va_up (yT d) j (tClose (yT d j)) j = _; rw [va_up_self]) hb hlst hS 32 (Nat.le_refl _)
        obtain ⟨g1, g2, g3, g4, g5⟩ := Sim.wide (b2 := fun i => b i + 1) hD (fun k hk => by simp only [hk, if_true]; exact Nat.le_refl _)
        have ez : ∀ n, zDoneN (zE r, zC r, zW r, zG r, zP r, zS r, zH r, zR r, va_up (zO r) j false, zD r, zL r) j n = zDoneN r j n := by
          intro n
          induction n with
          | zero => rfl
          | succ n ih => unfold zDoneN; rw [ih]; rfl
        rw [ez] at g1 g2 g3 g5
        have g6 : yD (yDoneN j (ySet d j (tClose (yT d j))) 32) = zD r ∧ yS (yDoneN j (ySet d j (tClose (yT d j))) 32) = zL r := g4
        clear g4 hD ez
        generalize yDoneN j (ySet d j (tClose (yT d j))) 32 = D at *
        generalize zDoneN r j 32 = Z at *
        refine ⟨g1, g2, g3, ⟨?_, g6.2⟩, fun t2 ht2 => ⟨(g5 t2 ht2).1, fun ho2 => SimO.same ((g5 t2 ht2).2 ho2) rfl (fun _ _ => rfl) (fun _ _ => rfl) (fun _ _ => rfl) (fun _ _ _ => rfl) (fun _ _ _ => rfl)⟩⟩
        show yD D + 1 = zD r + 1
        rw [g6.1]
/-- the two new objects -/
def tNew : xTS := (false, false, 0, 1, fun _ => 0, fun _ _ => 0)
def yNew : xDS := (fun _ => 0, fun _ => 0, fun _ => tNew, 0, 0)
def zNew : xRS := (0, fun _ => 0, fun _ => 0, fun _ => 0, fun _ => 0, fun _ => 0, fun _ => false, fun _ => false, fun _ => false, 0, 0)
theorem sim_new : Sim (fun _ => 0) yNew zNew := ⟨fun _ _ => rfl, fun _ _ => rfl, fun _ _ => ⟨0, Nat.le_refl _, nI_0.symm⟩, ⟨rfl, rfl⟩, fun _ _ => ⟨rfl, fun q => by cases q⟩⟩
end
section
/-! Integer.bitCount's sum of bits, over numbers. -/
theorem bc_and {h m a c : Nat} (ha : a < 256) (hc : c < 256) : (256 * h + a) &&& (256 * m + c) = 256 * (h &&& m) + (a &&& c) := by
  have hac : a &&& c < 2 ^ 8 := Nat.lt_of_le_of_lt Nat.and_le_left ha
  have e1 : ∀ i, (256 * h + a).testBit i = if i < 8 then a.testBit i else h.testBit (i - 8) := fun i => Nat.testBit_two_pow_mul_add h (i := 8) ha i
  have e2 : ∀ i, (256 * m + c).testBit i = if i < 8 then c.testBit i else m.testBit (i - 8) := fun i => Nat.testBit_two_pow_mul_add m (i := 8) hc i
  have e3 : ∀ i, (256 * (h &&& m) + (a &&& c)).testBit i = if i < 8 then (a &&& c).testBit i else (h &&& m).testBit (i - 8) := fun i => Nat.testBit_two_pow_mul_add (h &&& m) (i := 8) hac i
  apply Nat.eq_of_testBit_eq
  intro i
  rw [Nat.testBit_and, e1, e2, e3]
  by_cases hi : i < 8
  · rw [if_pos hi, if_pos hi, if_pos hi, Nat.testBit_and]
  · rw [if_neg hi, if_neg hi, if_neg hi, Nat.testBit_and]
def bc1 (n m : Nat) : Nat := n - ((n / 2) &&& m)
def bc2 (n m : Nat) : Nat := (n &&& m) + ((n / 4) &&& m)
def bc3 (n m : Nat) : Nat := (n + n / 16) &&& m
theorem bc_t1 : ∀ a, a < 256 → ∀ g, g < 2 → ((128 * g + a / 2) &&& 85) = ((a / 2) &&& 85) ∧ ((a / 2) &&& 85) ≤ a := by decide +kernel
theorem bc_t2 : ∀ a, a < 256 → ∀ g, g < 4 → ((64 * g + a / 4) &&& 51) = ((a / 4) &&& 51) := by decide +kernel
theorem bc_t3 : ∀ a, a < 256 → a % 16 ≤ 4 → a / 16 ≤ 4 → ∀ g, g < 5 → ((a + (16 * g + a / 16)) &&& 15) = ((a + a / 16) &&& 15) ∧ a + (16 * g + a / 16) < 256 := by decide +kernel
theorem bc_s1 {h a m : Nat} (ha : a < 256) (hm : h / 2 &&& m ≤ h) : bc1 (256 * h + a) (256 * m + 85) = 256 * bc1 h m + bc1 a 85 := by
  obtain ⟨t1, t2⟩ := bc_t1 a ha (h % 2) (by omega)
  have e1 : (256 * h + a) / 2 = 256 * (h / 2) + (128 * (h % 2) + a / 2) := by omega
  unfold bc1
  rw [e1, bc_and (by omega) (by decide), t1]
  generalize h / 2 &&& m = u at *
  generalize a / 2 &&& 85 = v at *
  omega
theorem bc_s2 {h a m : Nat} (ha : a < 256) : bc2 (256 * h + a) (256 * m + 51) = 256 * bc2 h m + bc2 a 51 := by
  have t1 := bc_t2 a ha (h % 4) (by omega)
  have e1 : (256 * h + a) / 4 = 256 * (h / 4) + (64 * (h % 4) + a / 4) := by omega
  unfold bc2
  rw [e1, bc_and (by omega) (by decide), bc_and (by omega) (by decide), t1]
  omega
theorem bc_s3 {h a m : Nat} (ha : a < 256) (h1 : a % 16 ≤ 4) (h2 : a / 16 ≤ 4) (h3 : h % 16 ≤ 4) : bc3 (256 * h + a) (256 * m + 15) = 256 * bc3 h m + bc3 a 15 := by
  obtain ⟨t1, t2⟩ := bc_t3 a ha h1 h2 (h % 16) (by omega)
  have e1 : (256 * h + a) + (256 * h + a) / 16 = 256 * (h + h / 16) + (a + (16 * (h % 16) + a / 16)) := by omega
  unfold bc3
  rw [e1, bc_and t2 (by decide), t1]
def bcB (a : Nat) : Nat := bc3 (bc2 (bc1 a 85) 51) 15
theorem bc_byte : ∀ a, a < 256 → bc1 a 85 < 256 ∧ bc2 (bc1 a 85) 51 < 256 ∧ bc2 (bc1 a 85) 51 % 16 ≤ 4 ∧ bc2 (bc1 a 85) 51 / 16 ≤ 4 ∧ (a / 2 &&& 85) ≤ a ∧ bcB a = (a % 2 + a / 2 % 2 + a / 4 % 2 + a / 8 % 2) + (a / 16 % 2 + a / 32 % 2 + a / 64 % 2 + a / 128 % 2) ∧ bcB a ≤ 8 := by decide +kernel
/-- four bytes, one after another -/
theorem bc_four {n : Nat} (hn : n < 2 ^ 32) : bc3 (bc2 (bc1 n 1431655765) 858993459) 252645135 = 256 * (256 * (256 * bcB (n / 16777216) + bcB (n / 65536 % 256)) + bcB (n / 256 % 256)) + bcB (n % 256) := by
  obtain ⟨a0, ha0⟩ : ∃ z, z = n % 256 := ⟨_, rfl⟩
  obtain ⟨a1, ha1⟩ : ∃ z, z = n / 256 % 256 := ⟨_, rfl⟩
  obtain ⟨a2, ha2⟩ : ∃ z, z = n / 65536 % 256 := ⟨_, rfl⟩
  obtain ⟨a3, ha3⟩ : ∃ z, z = n / 16777216 := ⟨_, rfl⟩
  rw [← ha0, ← ha1, ← ha2, ← ha3]
  have hs : n = 256 * (256 * (256 * a3 + a2) + a1) + a0 := by omega
  have b0 : a0 < 256 := by omega
  have b1 : a1 < 256 := by omega
  have b2 : a2 < 256 := by omega
  have b3 : a3 < 256 := by omega
  obtain ⟨p0, q0, r0, s0, u0, -, -⟩ := bc_byte a0 b0
  obtain ⟨p1, q1, r1, s1, u1, -, -⟩ := bc_byte a1 b1
  obtain ⟨p2, q2, r2, s2, u2, -, -⟩ := bc_byte a2 b2
  obtain ⟨p3, q3, r3, s3, u3, -, -⟩ := bc_byte a3 b3
  have le1 : ∀ h m : Nat, h / 2 &&& m ≤ h := fun h m => Nat.le_trans Nat.and_le_left (Nat.div_le_self _ _)
  have m1 : (1431655765 : Nat) = 256 * (256 * (256 * 85 + 85) + 85) + 85 := by decide
  have m2 : (858993459 : Nat) = 256 * (256 * (256 * 51 + 51) + 51) + 51 := by decide
  have m3 : (252645135 : Nat) = 256 * (256 * (256 * 15 + 15) + 15) + 15 := by decide
  rw [hs, m1, bc_s1 b0 (le1 _ _), bc_s1 b1 (le1 _ _), bc_s1 b2 (le1 _ _)]
  rw [m2, bc_s2 p0, bc_s2 p1, bc_s2 p2]
  rw [m3, bc_s3 q0 r0 s0 (by omega), bc_s3 q1 r1 s1 (by omega), bc_s3 q2 r2 s2 (by omega)]
  rfl
theorem bc_bt (x : Int32) (i : Nat) : (if bt x i = true then 1 else 0) = x.toBitVec.toNat / 2 ^ i % 2 := by
  have e : bt x i = x.toBitVec.toNat.testBit i := by unfold bt; exact (BitVec.testBit_toNat _).symm
  rw [e, Nat.testBit_eq_decide_div_mod_eq]
  rcases Nat.mod_two_eq_zero_or_one (x.toBitVec.toNat / 2 ^ i) with h | h <;> simp [h]
theorem bc_m8 (m : Nat) : m % 256 % 2 = m % 2 ∧ m % 256 / 2 % 2 = m / 2 % 2 ∧ m % 256 / 4 % 2 = m / 4 % 2 ∧ m % 256 / 8 % 2 = m / 8 % 2 ∧ m % 256 / 16 % 2 = m / 16 % 2 ∧ m % 256 / 32 % 2 = m / 32 % 2 ∧ m % 256 / 64 % 2 = m / 64 % 2 ∧ m % 256 / 128 % 2 = m / 128 % 2 := by
  refine ⟨?_, ?_, ?_, ?_, ?_, ?_, ?_, ?_⟩ <;> omega
theorem bc_d (n a b : Nat) : n / a / b % 2 = n / (a * b) % 2 := by rw [Nat.div_div_eq_div_mul]
theorem bc_cnt (x : Int32) : bCnt x 32 = bcB (x.toBitVec.toNat % 256) + bcB (x.toBitVec.toNat / 256 % 256) + bcB (x.toBitVec.toNat / 65536 % 256) + bcB (x.toBitVec.toNat / 16777216) := by
  have hx : x.toBitVec.toNat < 2 ^ 32 := x.toBitVec.isLt
  have e : ∀ k, bCnt x (k + 1) = bCnt x k + x.toBitVec.toNat / 2 ^ k % 2 := fun k => by rw [← bc_bt]; rfl
  rw [e 31, e 30, e 29, e 28, e 27, e 26, e 25, e 24, e 23, e 22, e 21, e 20, e 19, e 18, e 17, e 16, e 15, e 14, e 13, e 12, e 11, e 10, e 9, e 8, e 7, e 6, e 5, e 4, e 3, e 2, e 1, e 0]
  generalize x.toBitVec.toNat = n at *
  obtain ⟨-, -, -, -, -, f0, -⟩ := bc_byte (n % 256) (by omega)
  obtain ⟨-, -, -, -, -, f1, -⟩ := bc_byte (n / 256 % 256) (by omega)
  obtain ⟨-, -, -, -, -, f2, -⟩ := bc_byte (n / 65536 % 256) (by omega)
  obtain ⟨-, -, -, -, -, f3, -⟩ := bc_byte (n / 16777216) (by omega)
  rw [f0, f1, f2, f3]
  obtain ⟨m0, m1, m2, m3, m4, m5, m6, m7⟩ := bc_m8 (n)
  obtain ⟨m8, m9, m10, m11, m12, m13, m14, m15⟩ := bc_m8 (n / 256)
  obtain ⟨m16, m17, m18, m19, m20, m21, m22, m23⟩ := bc_m8 (n / 65536)
  rw [m0, m1, m2, m3, m4, m5, m6, m7, m8, m9, m10, m11, m12, m13, m14, m15, m16, m17, m18, m19, m20, m21, m22, m23]
  simp only [bc_d]
  show 0 + n / 2 ^ 0 % 2 + n / 2 % 2 + n / 4 % 2 + n / 8 % 2 + n / 16 % 2 + n / 32 % 2 + n / 64 % 2 + n / 128 % 2 + n / 256 % 2 + n / 512 % 2 + n / 1024 % 2 + n / 2048 % 2 + n / 4096 % 2 + n / 8192 % 2 + n / 16384 % 2 + n / 32768 % 2 + n / 65536 % 2 + n / 131072 % 2 + n / 262144 % 2 + n / 524288 % 2 + n / 1048576 % 2 + n / 2097152 % 2 + n / 4194304 % 2 + n / 8388608 % 2 + n / 16777216 % 2 + n / 33554432 % 2 + n / 67108864 % 2 + n / 134217728 % 2 + n / 268435456 % 2 + n / 536870912 % 2 + n / 1073741824 % 2 + n / 2147483648 % 2 = _
  have z : n / 2 ^ 0 % 2 = n % 2 := by rw [Nat.pow_zero, Nat.div_one]
  rw [z]
  simp only [Nat.reduceMul]
  clear m0 m1 m2 m3 m4 m5 m6 m7 m8 m9 m10 m11 m12 m13 m14 m15 m16 m17 m18 m19 m20 m21 m22 m23 f0 f1 f2 f3 e z hx
  generalize n % 2 = b0
  generalize n / 2 % 2 = b1
  generalize n / 4 % 2 = b2
  generalize n / 8 % 2 = b3
  generalize n / 16 % 2 = b4
  generalize n / 32 % 2 = b5
  generalize n / 64 % 2 = b6
  generalize n / 128 % 2 = b7
  generalize n / 256 % 2 = b8
  generalize n / 512 % 2 = b9
  generalize n / 1024 % 2 = b10
  generalize n / 2048 % 2 = b11
  generalize n / 4096 % 2 = b12
  generalize n / 8192 % 2 = b13
  generalize n / 16384 % 2 = b14
  generalize n / 32768 % 2 = b15
  generalize n / 65536 % 2 = b16
  generalize n / 131072 % 2 = b17
  generalize n / 262144 % 2 = b18
  generalize n / 524288 % 2 = b19
  generalize n / 1048576 % 2 = b20
  generalize n / 2097152 % 2 = b21
  generalize n / 4194304 % 2 = b22
  generalize n / 8388608 % 2 = b23
  generalize n / 16777216 % 2 = b24
  generalize n / 33554432 % 2 = b25
  generalize n / 67108864 % 2 = b26
  generalize n / 134217728 % 2 = b27
  generalize n / 268435456 % 2 = b28
  generalize n / 536870912 % 2 = b29
  generalize n / 1073741824 % 2 = b30
  generalize n / 2147483648 % 2 = b31
  omega
end
