/-! A thrown object is caught in a method's own table of handlers (its classes resolved or not yet), and the call of a static method that has such a table. -/
section XC0
variable {E : CtlPost} {e : Env} {d : Bool} {acts : List Action} {st : State} {f : JFrame} {a : Addr} {Q : Handler → Pre}
theorem xc_go {x : ExceptionTableEntry} {t : List ExceptionTableEntry} {k : ClassId} {cell : Cell} {vm' : Vm} (hx : covers x f.pc = true) (h0 : x.catchType ≠ 0)
    (hg : (Jvm.resolveClass f.method.cls x.catchType).Gives e.toSetting st.vm (.ok k) vm') (hsz : vm'.classes.size ≤ st.vm.classes.size)
    (hcell : st.heap[a]? = some cell) (hobj : ∀ z, cell.vm ≠ .statics z) (hk : ∃ z, vm'.classes[cell.cls]? = some z) (hc : ∃ z, vm'.classes[k]? = some z) :
    wp (findHandler.go f a (x :: t)) Q E e d acts st ↔ if vm'.assignable cell.cls k = true then Q (.found x.handlerPc) d acts (st.setVm vm') else wp (findHandler.go f a t) Q E e d acts (st.setVm vm') := by
  obtain ⟨ha, ht⟩ := hg.op (op := VmOp.resolveClass f.method.cls x.catchType) rfl
  simp only [covers] at hx
  cases hfit : vm'.assignable cell.cls k <;>
    simp [findHandler.go, hx, h0, ha, ht, hsz, hcell, hobj, hk, hc, hfit, VmOp.dirties, VmOp.acts]
theorem xc_step {r : List Frame} {pc : Nat} {vm' : Vm} (hfind : ∀ (Q : Handler → Pre) (E : CtlPost) (d : Bool) (acts : List Action), wp (findHandler f a) Q E e d acts st ↔ Q (.found pc) d acts (st.setVm vm')) :
    (stepThrowing e st a (.java f :: r)).Is ((st.setVm vm').setFrames (.java { f with pc := pc, stack := [.ref a] } :: r)) [] := by
  simp only [stepThrowing, searchFrame, vmDo]
  generalize hr : Sem.go _ e false [] st = res
  obtain ⟨as, rfl, ha⟩ := Sem.eq_ok_of hr (a := Handler.found pc) (s' := st.setVm vm') (acts' := []) (by simp [hfind _ _ _ _])
  exact ⟨rfl, ha⟩
end XC0
section XC1
variable {p : Program} {l : Launch} {e : Env} {R : Room} {s : State} {m : MethodId} {args : Array Value} {below : List Frame} {meth : Method} {c : Code} {H : Heap} {locs : List Loc} {cells slots : Nat} {Q : State → Prop}
theorem xc_not {E C : String} {cE k : ClassId} (hE : s.vm.findClass E = some cE) (hC : s.vm.findClass C = some k) (h : (Cond.not (.castable E C)).before args s = true) : s.vm.assignable cE k = false := by
  simp only [Cond.before, Cond.holds, Cond.value, hE, hC] at h
  cases hb : s.vm.assignable cE k
  · rfl
  · rw [hb] at h; simp at h
theorem xc_find {own E : String} {x : Addr} {cell : Cell} {g : JFrame} (hpl : e.platform.magicAccessors = ({} : Platform).magicAccessors) (hown : s.vm.findClass own = some g.method.cls) (hvn : cell.vm = .none) (hE : s.vm.findClass E = some cell.cls)
    (e0 : ExceptionTableEntry) (C0 : String) (rest : List ExceptionTableEntry) (hc0 : covers e0 g.pc = true) (ht0 : e0.catchType ≠ 0) (hl0 : (Cond.classLink own e0.catchType C0).before args s = true) (hy : (Cond.castable E C0).before args s = true) :
    ∀ (pre : List (ExceptionTableEntry × String)), (∀ q ∈ pre, covers q.1 g.pc = true ∧ q.1.catchType ≠ 0 ∧ (Cond.classLink own q.1.catchType q.2).before args s = true ∧ (Cond.not (.castable E q.2)).before args s = true) →
    ∀ V : Vm, s.WarmedH V → ∃ vm' : Vm, s.WarmedH vm' ∧ ∀ (Q : Handler → Pre) (E' : CtlPost) (d : Bool) (acts : List Action) (st : State), st.vm = V → st.heap[x]? = some cell →
      (wp (findHandler.go g x (pre.map (·.1) ++ e0 :: rest)) Q E' e d acts st ↔ Q (.found e0.handlerPc) d acts (st.setVm vm')) := by
  have hobj : ∀ z, cell.vm ≠ .statics z := fun z h => by rw [hvn] at h; cases h
  have step : ∀ (en : ExceptionTableEntry) (C : String), (Cond.classLink own en.catchType C).before args s = true → ∀ V : Vm, s.WarmedH V → ∃ k : ClassId, s.vm.findClass C = some k ∧ (Jvm.resolveClass g.method.cls en.catchType).Gives e.toSetting V (.ok k) (V.noted g.method.cls en.catchType (.cls k)) ∧ s.WarmedH (V.noted g.method.cls en.catchType (.cls k)) ∧ (V.noted g.method.cls en.catchType (.cls k)).classes.size ≤ V.classes.size ∧ (∃ z, (V.noted g.method.cls en.catchType (.cls k)).classes[cell.cls]? = some z) ∧ (∃ z, (V.noted g.method.cls en.catchType (.cls k)).classes[k]? = some z) := by
    intro en C hl V hV
    obtain ⟨k, hkF, hcl⟩ := Cond.classLink_spec hown hl e.platform hpl
    obtain ⟨dk, _, _, kt, hd, _, _, _, _, hkt, _, hopen⟩ := hcl.here
    have hW' : s.WarmedH (V.noted g.method.cls en.catchType (.cls k)) := hV.noted hd hopen (State.rightAt_cls hcl)
    obtain ⟨kc, hkc⟩ := Vm.classAt_of_findClass hE
    obtain ⟨k1, hk1, -⟩ := hW'.alike.2.2 _ _ hkc
    obtain ⟨k2, hk2, -⟩ := hW'.alike.2.2 _ _ hkt
    exact ⟨k, hkF, resolveClass_links e.toSetting (hV.classLinks hcl), hW', by no_record, ⟨k1, hk1⟩, ⟨k2, hk2⟩⟩
  intro pre
  induction pre with
  | nil =>
    intro _ V hV
    obtain ⟨k, hkF, hg, hW', hsz, h1, h2⟩ := step e0 C0 hl0 V hV
    obtain ⟨c1, t1, q1, q2, q3⟩ := Cond.castable_spec hy
    cases hE.symm.trans q1
    cases hkF.symm.trans q2
    refine ⟨_, hW', fun Q E' d acts st hst hce => ?_⟩
    subst hst
    show wp (findHandler.go g x (e0 :: rest)) Q E' e d acts st ↔ _
    rw [xc_go hc0 ht0 hg hsz hce hobj h1 h2, if_pos (by rw [hW'.alike.assignable]; exact q3)]
  | cons q t ih =>
    intro hall V hV
    obtain ⟨a1, a2, a3, a4⟩ := hall q List.mem_cons_self
    obtain ⟨k, hkF, hg, hW', hsz, h1, h2⟩ := step q.1 q.2 a3 V hV
    have hno := xc_not hE hkF a4
    obtain ⟨vm2, hW2, h3⟩ := ih (fun z hz => hall z (List.mem_cons_of_mem _ hz)) _ hW'
    refine ⟨vm2, hW2, fun Q E' d acts st hst hce => ?_⟩
    subst hst
    show wp (findHandler.go g x (q.1 :: (t.map (·.1) ++ e0 :: rest))) Q E' e d acts st ↔ _
    rw [xc_go a1 a2 hg hsz hce hobj h1 h2, if_neg (by rw [hW'.alike.assignable, hno]; decide)]
    exact h3 Q E' d acts _ rfl hce
/-- caught: the walk goes on at the handler, with the object alone on the stack -/
theorem xc_catch {own E : String} {x : Addr} {cell : Cell} {pc : Nat} {ls : Array Slot} {st0 : List Value} (hown : s.vm.findClass own = some m.cls) (hcell : H[x]? = some cell) (hvn : cell.vm = .none) (hE : s.vm.findClass E = some cell.cls)
    (e0 : ExceptionTableEntry) (C0 : String) (rest : List ExceptionTableEntry) (pre : List (ExceptionTableEntry × String)) (htab : c.exceptionTable.toList = pre.map (·.1) ++ e0 :: rest) (hc0 : covers e0 pc = true) (ht0 : e0.catchType ≠ 0) (hl0 : (Cond.classLink own e0.catchType C0).before args s = true) (hy : (Cond.castable E C0).before args s = true)
    (hall : ∀ q ∈ pre, covers q.1 pc = true ∧ q.1.catchType ≠ 0 ∧ (Cond.classLink own q.1.catchType q.2).before args s = true ∧ (Cond.not (.castable E q.2)).before args s = true)
    (k : W p l e R s m args below meth c H locs cells slots Q (F0 m e0.handlerPc ls [.ref x])) : xt_W p l e R s m args below meth c H locs cells slots Q (F0 m pc ls st0) x := by
  intro T hT X
  have hpl : e.platform.magicAccessors = ({} : Platform).magicAccessors := by rw [X.admits.platform]
  obtain ⟨vm', hW', hfind⟩ := xc_find (g := F0 m pc ls st0) hpl hown hvn hE e0 C0 rest hc0 ht0 hl0 hy pre hall T.vm X.warmed
  obtain ⟨t, a1, b1⟩ := k (T.setVm vm') hT (X.noted hW')
  refine ⟨t, ?_, b1⟩
  obtain ⟨hgo, hw⟩ := At.throwing (g := F0 m pc ls st0) (X.here : At T (F0 m pc ls st0).method c below) x
  refine Steps.head hgo hw ?_
  have hv : ((T.setTop (F0 m pc ls st0)).pushFrame (.throwing x)).vm = T.vm := Stand.throwing_vm T _ x
  have hh : ((T.setTop (F0 m pc ls st0)).pushFrame (.throwing x)).heap = T.heap := Stand.throwing_heap T _ x
  rw [stepThread_throwing (frames_entered X.here.top _), (xc_step (st := (T.setTop (F0 m pc ls st0)).pushFrame (.throwing x)) (f := F0 m pc ls st0) (pc := e0.handlerPc) (vm' := vm') (fun Q E' d acts => by
    rw [W.findHandler_eq (meth := meth) (code := c) (by rw [hv]; exact X.method') X.code, htab]
    exact hfind Q E' d acts _ hv (by rw [hh, hT]; exact hcell))).1]
  obtain ⟨g₀, hg⟩ := Option.isSome_iff_exists.mp X.here.top
  obtain ⟨r, hr⟩ := State.topJava?_eq_some.mp hg
  have e1 : (((T.setTop (F0 m pc ls st0)).pushFrame (.throwing x)).setVm vm').setFrames (.java { (F0 m pc ls st0) with pc := e0.handlerPc, stack := [.ref x] } :: T.frames.tail) = (T.setVm vm').setTop (F0 m e0.handlerPc ls [.ref x]) := by
    have hr2 : (T.setVm vm').frames = .java g₀ :: r := hr
    rw [State.setTop_of_frames _ hr2]
    show ((((T.setTop (F0 m pc ls st0)).pushFrame (.throwing x)).setFrames _).setVm vm') = ((T.setFrames _).setVm vm')
    rw [State.pushFrame, State.setFrames_setFrames, State.setTop_of_frames _ hr, State.setFrames_setFrames, hr]
    rfl
  rw [e1]
  exact a1
end XC1
section XC2
variable {p : Program} {l : Launch} {e : Env} {R : Room} {s : State} {m : MethodId} {args : Array Value} {below : List Frame} {meth : Method} {c : Code} {H : Heap} {locs : List Loc} {cells slots : Nat}
variable {y : MethodName} {bytes cc : ByteArray} {maxL nL mc ms n index : Nat} {ret : Option FieldType} {hh : List (Nat × Nat × Nat × Nat)} {ws ws' : List Cond} {rm : Room} {Pc : Array Value → State → Prop} {Qc : Array Value → State → Outcome → State → Prop} {free : Addr → Prop} {Ts : List Cond} {own : String} {As rest : List Value} {g : JFrame}
/-- invokestatic of a method that has a table of handlers and returns -/
theorem xc_runS (S : CallFix p m c cc nL s args Ts own) (hM : Met l y ws rm Pc Qc mc ms free) (hG : GoodIn Ts ws) (hw : ws = Cond.codeWith y bytes maxL ret hh :: ws') (hrc : rm.cells = mc) (hrs : rm.slots = ms) (hR : rm.frames + 1 ≤ R.frames ∧ 8 + (maxL + 11) + rm.locals ≤ R.locals)
    (hl : (Cond.methodLink own index y).before args s = true) (hst : (Cond.static y).before args s = true) (hini : (Cond.initialized y.cls).before args s = true) (hy : y.cls ≠ "java/lang/invoke/MethodHandle" ∧ y.cls ≠ "java/lang/invoke/VarHandle") (hd : (parseMethodDescriptor y.desc).map (fun d => d.parameters.length) = some n) (hp : PreS s H Pc As)
    (hg : g.method = m) (hn : As.length = n) (hsize : g.locals.size = nL) (hstack : g.stack = As.reverse ++ rest) (hW : 2 * g.monitorRoom + (rest.map fun v => v.category).sum ≤ 8) (hdg : decode cc g.pc = .ok (.invokestatic index, 3)) (hf : cells + mc ≤ R.cells ∧ slots + ms ≤ R.slots) :
    va_Run p l e R s m args below meth c H locs cells slots mc ms g rest (Qc As.toArray) free := by
  obtain ⟨hx, hb, hml, ho, hts⟩ := S
  have hcw : Cond.codeWith y bytes maxL ret hh ∈ ws := by rw [hw]; exact List.mem_cons_self
  have hws := pay_in hts hG
  have hcode : (Cond.codeWith y bytes maxL ret hh).before args s = true := hts _ (hG _ hcw).1
  have hK : Back l R p e below s args y 3 8 (PreOf R mc ms Pc) (PostOf Qc mc ms free) := va_backW (hh := hh) (bytes := bytes) (maxL := maxL) (ret := ret) hM hp.1 hrc hrs hR.1 hR.2 hws hcw (xt_ini hini)
  intro T hT X
  obtain ⟨mk, methM, cM, hnamed, hmethM, -, -, -, -, -, -, hsigM⟩ := Cond.codeWith_spec hcode
  have hstatic : methM.isStatic = true := Cond.static_spec hnamed hmethM hst
  obtain ⟨kP, hkP, -⟩ := className_of_methodNamed hnamed
  have hinitP : kP.init = .initialized := Cond.initialized_spec (findClass_of_methodNamed hnamed) hkP hini
  have hlen : As.length = methM.sig.parameters.length := by
    rw [hsigM] at hd
    rw [hn]; exact (Option.some.inj hd).symm
  obtain ⟨vm₁, X₁, hstep₁⟩ := X.invokestatic hx ho hl hnamed hmethM hstatic hkP hinitP hy (g := g) hg (argsL := As) (rest := rest) hlen hstack (by rw [hb]; exact hdg)
  obtain ⟨v, ⟨U', l2, c2, s2⟩, X', ⟨g', mk', t, L, e1, e2, hq, h1, hL, h2, h3⟩, hsteps⟩ := hK m meth c ⟨T.setVm vm₁, locs, cells, slots⟩ { g with stack := rest } (.invokestatic index) mk As.toArray X₁ hg (hsize.trans hml.symm) (by rw [hb]; exact hdg) hW (X₁.named hnamed) ⟨hf.1, hf.2, hp.2 (T.setVm vm₁) hT X₁.warmed⟩
  dsimp only [Pt.U, Pt.locs, Pt.cells, Pt.slots] at X' e1 e2 h1 h2 h3 hsteps
  subst h1; subst h2; subst h3
  exact ⟨v, (T.setVm vm₁).calling g' mk' As.toArray, t, U', L, hT, X', hL, e1, e2, hq, fun target h => hstep₁ _ fun acts => by rw [doInvoke_state]; exact hsteps.trans h⟩
end XC2
