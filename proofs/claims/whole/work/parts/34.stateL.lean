/-! The law's world: the cell for answers, and the desk. What its calls begin and end with; the catching. -/
def lW (k : Nat → ClassId) (b : Nat → Nat) (o : Nat) (d : xDS) (g : Nat → Int64) : va_W := (o, .inl (k 1, 1, .inr (.inl g))) :: dW k b d
theorem lW_P {D : va_G} {cl : List vw_C} {k : Nat → ClassId} {b : Nat → Nat} {o : Nat} {d : xDS} {g : Nat → Int64} {H : Heap} (h : va_P D cl (lW k b o d g) H) : va_P D cl (dW k b d) H := fun i q hq => h (i + 1) q hq
theorem lW_Dd {A : Nat → Prop} {k : Nat → ClassId} {b : Nat → Nat} {o : Nat} {d : xDS} {g : Nat → Int64} (h : va_D A (lW k b o d g)) : va_D A (dW k b d) := ⟨fun i j p q hp hq e => by have := h.1 (i + 1) (j + 1) p q hp hq e; omega, fun i q hq => h.2 (i + 1) q hq⟩
theorem lW_D {A : Nat → Prop} {k : Nat → ClassId} {b : Nat → Nat} {o : Nat} {d d2 : xDS} {g g2 : Nat → Int64} (h : va_D A (lW k b o d g)) : va_D A (lW k b o d2 g2) := va_D_adr (w1 := lW k b o d g) (w2 := lW k b o d2 g2) rfl h
theorem lW_join {D : va_G} {cl : List vw_C} {A : Nat → Prop} {k : Nat → ClassId} {b : Nat → Nat} {o : Nat} {d d2 : xDS} {g : Nat → Int64} {H H1 : Heap} (hP : va_P D cl (lW k b o d g) H) (hD : va_D A (lW k b o d g)) (hB : va_P D cl (dW k b d2) H1) (hk : ∀ q : Nat, q < H.size → ¬ va_A (dW k b d) H.size q → H1[q]? = H[q]?) : va_P D cl (lW k b o d2 g) H1 := by
  intro i q hq
  cases i with
  | zero =>
    have h0 := hP 0 _ rfl
    have e : q = (o, .inl (k 1, 1, .inr (.inl g))) := (Option.some.inj hq).symm
    subst e
    refine h0.kept (hk o h0.lt ?_)
    rintro (⟨i, e, hi⟩ | h)
    · have := hD.1 0 (i + 1) _ (o, e) rfl hi rfl
      omega
    · exact absurd h0.lt (Nat.not_lt.mpr h)
  | succ i => exact hB i q hq
theorem lW_free {A : Nat → Prop} {k : Nat → ClassId} {b : Nat → Nat} {o : Nat} {d : xDS} {g : Nat → Int64} {H0 H : Heap} {locs : List Loc} (hD : va_D A (lW k b o d g)) (hS : va_S A H0 H locs) (hA : ∀ q, H0.size ≤ q → A q) : ∀ q, va_A (dW k b d) H.size q → A q := dW_all (lW_Dd hD) hS hA
/-- the words by which the law's tables catch -/
def xC1 : List Cond := [.castable qA qA, .castable qS qS, .castable qB qB, .castable qU qU]
def xC2 : List (String × String) := [(qA, qS), (qA, qB), (qA, qU), (qS, qA), (qS, qB), (qS, qU), (qB, qA), (qB, qS), (qB, qU), (qU, qA), (qU, qS), (qU, qB)]
theorem xC1_all : xC1.all (fun w => w.onTables && w.keepsCast) = true := by decide +kernel
theorem xn_at {a b : String} {A A' : Array Value} {s U : State} (hW : s.WarmedH U.vm) (h : (Cond.not (.castable a b)).before A s = true) : (Cond.not (.castable a b)).before A' U = true :=
  Cond.castAtom_setVm (args := A) hW.alike (.not (.castable a b)) rfl h
def xCt (U : State) : Prop := (∀ w ∈ xC1, w.before #[] U = true) ∧ ∀ q ∈ xC2, (Cond.not (.castable q.1 q.2)).before #[] U = true
theorem xCt.move {s U : State} (hW : s.WarmedH U.vm) (h : xCt s) : xCt U := ⟨fun w hw => xs_at (List.all_eq_true.mp xC1_all w hw) hW (h.1 w hw), fun q hq => xn_at hW (h.2 q hq)⟩
theorem xCt.y {s : State} {A : Array Value} (h : xCt s) (i : Nat) {w : Cond} (hi : xC1[i]? = some w) : w.before A s = true := xs_at (A := #[]) (List.all_eq_true.mp xC1_all w (List.mem_of_getElem? hi)) (State.WarmedH.refl s) (h.1 w (List.mem_of_getElem? hi))
theorem xCt.n {s : State} {A : Array Value} (h : xCt s) (i : Nat) {a b : String} (hi : xC2[i]? = some (a, b)) : (Cond.not (.castable a b)).before A s = true := xn_at (A := #[]) (State.WarmedH.refl s) (h.2 (a, b) (List.mem_of_getElem? hi))
def lPc (dC : Nat → ClassId) (dI : Nat → Nat → Nat) (k : Nat → ClassId) (b : Nat → Nat) (o sz : Nat) (d : xDS) (g : Nat → Int64) (av : List Value) : Array Value → State → Prop := va_Pc av (fun U => U.heap.size = sz ∧ va_P (dC, dI) vwC (lW k b o d g) U.heap ∧ va_K (dC, dI) vwC (kT k) U ∧ va_D (fun _ => True) (lW k b o d g) ∧ xTh U ∧ xCt U)
theorem lPc_pre {dC : Nat → ClassId} {dI : Nat → Nat → Nat} {k : Nat → ClassId} {b : Nat → Nat} {o : Nat} {d : xDS} {g : Nat → Int64} {s : State} {H : Heap} {A : Nat → Prop} (As : List Value) (hP : va_P (dC, dI) vwC (lW k b o d g) H) (hK : va_K (dC, dI) vwC (kT k) s) (hD : va_D A (lW k b o d g)) (hTh : xTh s) (hCt : xCt s) (hkp : xs_keep s.heap H) : PreS s H (lPc dC dI k b o H.size d g As) As :=
  ⟨fun av U g mk q => by
    obtain ⟨q0, q1, qP, qK, qD, qT, qC⟩ := q
    exact ⟨q0, q1, qP, va_K.moved (u := U) (U := U.calling g mk av) (Vm.Alike.refl U.vm) qK, qD, xs_Th.move (U := U.calling g mk av) xL_all (State.WarmedH.refl U) xs_keep.rf qT, xCt.move (U := U.calling g mk av) (State.WarmedH.refl U) qC⟩,
   fun U hU hW => ⟨rfl, by rw [hU], by rw [hU]; exact hP, va_K.moved hW.alike hK, hD.weaken (fun _ _ _ _ => trivial), hTh.move xL_all hW (by rw [hU]; exact hkp), hCt.move hW⟩⟩
abbrev lB (dC : Nat → ClassId) (dI : Nat → Nat → Nat) (k : Nat → ClassId) (b : Nat → Nat) (o : Nat) (u : xDS × (Nat → Int64)) (t : State) : Prop := va_P (dC, dI) vwC (lW k b o u.1 u.2) t.heap
theorem tab_cons {L : List ExceptionTableEntry} {a b h t : Nat} {r : List (Nat × Nat × Nat × Nat)} (e : L.map (fun h => (h.startPc, h.endPc, h.handlerPc, h.catchType)) = (a, b, h, t) :: r) : ∃ x L', L = x :: L' ∧ (x.startPc = a ∧ x.endPc = b) ∧ x.handlerPc = h ∧ x.catchType = t ∧ L'.map (fun h => (h.startPc, h.endPc, h.handlerPc, h.catchType)) = r := by
  cases L with
  | nil => cases e
  | cons x L' =>
    obtain ⟨e1, e2⟩ := List.cons.inj e
    simp only [Prod.mk.injEq] at e1
    exact ⟨x, L', rfl, ⟨e1.1, e1.2.1⟩, e1.2.2.1, e1.2.2.2, e2⟩
theorem tab_nil {L : List ExceptionTableEntry} (e : L.map (fun h => (h.startPc, h.endPc, h.handlerPc, h.catchType)) = []) : L = [] := List.map_eq_nil_iff.mp e
theorem tab_cov {x : ExceptionTableEntry} {a b pc : Nat} (h : x.startPc = a ∧ x.endPc = b) (h1 : a ≤ pc) (h2 : pc < b) : covers x pc = true := by
  unfold covers
  rw [h.1, h.2]
  simp [h1, h2]
section XU
variable {p : Program} {l : Launch} {e : Env} {R : Room} {s : State} {m : MethodId} {args : Array Value} {below : List Frame} {meth : Method} {c : Code} {H : Heap} {locs : List Loc} {cells slots mc ms : Nat} {Qc : Array Value → State → Outcome → State → Prop} {free : Addr → Prop}
theorem mq_up {g : JFrame} (h1 : cells ≤ mc) (h2 : slots ≤ ms) (k : W p l e R s m args below meth c H locs cells slots (MQ below Qc args s cells slots free) g) : W p l e R s m args below meth c H locs cells slots (MQ below Qc args s mc ms free) g := xt_mono (fun _ h => by
  obtain ⟨o, a1, a2, a3, L, ⟨a7, a4, a5⟩, a6⟩ := h
  exact ⟨o, a1, a2, a3, L, ⟨a7, a4, a5.mono h1 h2⟩, a6⟩) k
end XU
theorem xb_begin {d : xDS} {t : Int32} {X : String} {u : xDS} (h : (some X, u) = yBegin d t) : X = qA ∨ X = qS := by
  have h1 := congrArg Prod.fst h
  unfold yBegin at h1
  revert h1
  repeat' split
  all_goals (intro h1; first | (cases h1; done) | (cases h1; simp))
theorem xb_read {d : xDS} {t k : Int32} {X : String} {x : Int64} {u : xDS} (h : ((some X, x), u) = yRead d t k) : X = qA ∨ X = qB ∨ X = qS ∨ X = qU := by
  have h1 := congrArg (fun z => z.1.1) h
  unfold yRead at h1
  revert h1
  repeat' split
  all_goals (intro h1; first | (cases h1; done) | (cases h1; simp))
theorem xb_write {d : xDS} {t k : Int32} {y : Int64} {X : String} {u : xDS} (h : (some X, u) = yWrite d t k y) : X = qA ∨ X = qB ∨ X = qS := by
  have h1 := congrArg Prod.fst h
  unfold yWrite at h1
  revert h1
  repeat' split
  all_goals (intro h1; first | (cases h1; done) | (cases h1; simp))
theorem xb_save {d : xDS} {t : Int32} {X : String} {x : Int32} {u : xDS} (h : ((some X, x), u) = ySave d t) : X = qA ∨ X = qS ∨ X = qU := by
  have h1 := congrArg (fun z => z.1.1) h
  unfold ySave at h1
  revert h1
  repeat' split
  all_goals (intro h1; first | (cases h1; done) | (cases h1; simp))
theorem xb_back {d : xDS} {t : Int32} {X : String} {u : xDS} (h : (some X, u) = yBack d t) : X = qA ∨ X = qS ∨ X = qU := by
  have h1 := congrArg Prod.fst h
  unfold yBack at h1
  revert h1
  repeat' split
  all_goals (intro h1; first | (cases h1; done) | (cases h1; simp))
theorem xb_keep {d : xDS} {t : Int32} {X : String} {u : xDS} (h : (some X, u) = yKeep d t) : X = qA ∨ X = qS ∨ X = qU := by
  have h1 := congrArg Prod.fst h
  unfold yKeep at h1
  revert h1
  repeat' split
  all_goals (intro h1; first | (cases h1; done) | (cases h1; simp))
theorem xb_done {d : xDS} {t : Int32} {X : String} {x : Bool} {u : xDS} (h : ((some X, x), u) = yDone d t) : X = qA ∨ X = qS := by
  have h1 := congrArg (fun z => z.1.1) h
  unfold yDone at h1
  revert h1
  repeat' split
  all_goals (intro h1; first | (cases h1; done) | (cases h1; simp))
theorem xb_leave {d : xDS} {t : Int32} {X : String} {u : xDS} (h : (some X, u) = yLeave d t) : X = qA ∨ X = qS := by
  have h1 := congrArg Prod.fst h
  unfold yLeave at h1
  revert h1
  repeat' split
  all_goals (intro h1; first | (cases h1; done) | (cases h1; simp))
theorem xb_set {d : xDS} {k : Int32} {y : Int64} {X : String} {u : xDS} (h : (some X, u) = yPut d k y) : X = qB := by
  have h1 := congrArg Prod.fst h
  unfold yPut at h1
  revert h1
  repeat' split
  all_goals (intro h1; first | (cases h1; done) | (cases h1; rfl))
theorem xb_cell {d : xDS} {k : Int32} {X : String} {x : Int64} (h : (some X, x) = yCell d k) : X = qB := by
  have h1 := congrArg Prod.fst h
  unfold yCell at h1
  revert h1
  repeat' split
  all_goals (intro h1; first | (cases h1; done) | (cases h1; rfl))
theorem xb_changed {d : xDS} {k : Int32} {X : String} {x : Int32} (h : (some X, x) = yChd d k) : X = qB := by
  have h1 := congrArg Prod.fst h
  unfold yChd at h1
  revert h1
  repeat' split
  all_goals (intro h1; first | (cases h1; done) | (cases h1; rfl))
theorem xb_count {d : xDS} {t k : Int32} {X : String} {x : Int32} (h : (some X, x) = yCount d t k) : X = qA ∨ X = qS := by
  have h1 := congrArg Prod.fst h
  unfold yCount at h1
  revert h1
  repeat' split
  all_goals (intro h1; first | (cases h1; done) | (cases h1; simp))
theorem xb_all {d : xDS} {k : Int32} {X : String} {x : Int32} (h : (some X, x) = yAll d k) : X = qA := by
  have h1 := congrArg Prod.fst h
  unfold yAll at h1
  revert h1
  repeat' split
  all_goals (intro h1; first | (cases h1; done) | (cases h1; rfl))
