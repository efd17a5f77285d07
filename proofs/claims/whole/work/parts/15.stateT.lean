/-! A transaction's cells in the heap, and what the contracts of its methods begin and end with. -/
abbrev rmx (f c s l : Nat) : Room := { frames := f, cells := c, slots := s, locals := l }
theorem BIG_SS {own : String} {index : Nat} {y : MethodName} {c : Cond} (h1 : Cond.methodLink own index y ∈ BIG) (h2 : Cond.static y ∈ BIG) (h3 : Cond.initialized y.cls ∈ BIG) (h : c ∈ BIG) : GoodIn BIG (va_wsS own index y (c :: BIG)) := fun w hw => by
  unfold va_wsS at hw
  rcases List.mem_append.mp hw with q | q
  · have hm : w ∈ BIG := by
      simp only [List.mem_cons, List.not_mem_nil, or_false] at q
      rcases q with rfl | rfl | rfl
      · exact h1
      · exact h2
      · exact h3
    exact ⟨hm, good_of_word (List.all_eq_true.mp BIG_all w hm)⟩
  · exact BIG_good h w q
/-- the array classes: int, long, long[], Transaction, boolean -/
abbrev kT (k : Nat → ClassId) : List (ClassId × FieldType) := [(k 0, .int), (k 1, .long), (k 2, .array .long), (k 3, .object R_T), (k 4, .boolean)]
/-- the cells of a transaction: its object, its written cells, its outer array, its five rows -/
def tW (k : Nat → ClassId) (a : Nat → Nat) (z : xTS) : va_W := [(a 0, .inr (0, [.int (bI (xO z)), .int (bI (xS z)), .int (xR z), .int (nI (xP z)), .ref (a 1), .ref (a 2)])), (a 1, .inl (k 0, 5, .inl (xW z))), (a 2, .inl (k 2, 5, .inr (.inr (.inr (.inr (fun i => some (a (3 + i)))))))),
  (a 3, .inl (k 1, 32, .inr (.inl (xV z 0)))), (a 4, .inl (k 1, 32, .inr (.inl (xV z 1)))), (a 5, .inl (k 1, 32, .inr (.inl (xV z 2)))), (a 6, .inl (k 1, 32, .inr (.inl (xV z 3)))), (a 7, .inl (k 1, 32, .inr (.inl (xV z 4))))]
theorem tW_row {k : Nat → ClassId} {a : Nat → Nat} {z : xTS} {p : Nat} (hp : p < 5) : (tW k a z)[3 + p]? = some (a (3 + p), .inl (k 1, 32, .inr (.inl (xV z p)))) := by
  rcases (show p = 0 ∨ p = 1 ∨ p = 2 ∨ p = 3 ∨ p = 4 by omega) with rfl | rfl | rfl | rfl | rfl <;> rfl
theorem tW_set {k : Nat → ClassId} {a : Nat → Nat} {z : xTS} {p : Nat} {g : Nat → Int64} (hp : p < 5) : (tW k a z).set (3 + p) (a (3 + p), .inl (k 1, 32, .inr (.inl g))) = tW k a (xO z, xS z, xR z, xP z, xW z, va_up (xV z) p g) := by
  rcases (show p = 0 ∨ p = 1 ∨ p = 2 ∨ p = 3 ∨ p = 4 by omega) with rfl | rfl | rfl | rfl | rfl <;> rfl
/-- the same addresses: apart as well -/
theorem va_D_adr {A : Nat → Prop} {w1 w2 : va_W} (h : w1.map (·.1) = w2.map (·.1)) (hD : va_D A w1) : va_D A w2 := by
  have key : ∀ (i : Nat) (q : Nat × va_E), w2[i]? = some q → ∃ r : Nat × va_E, w1[i]? = some r ∧ r.1 = q.1 := by
    intro i q hq
    have h1 : (w2.map (·.1))[i]? = some q.1 := by rw [List.getElem?_map, hq]; rfl
    rw [← h, List.getElem?_map] at h1
    cases hr : w1[i]? with
    | none => rw [hr] at h1; cases h1
    | some r => rw [hr] at h1; exact ⟨r, rfl, Option.some.inj h1⟩
  refine ⟨fun i j p q hp hq e => ?_, fun i q hq => ?_⟩
  · obtain ⟨r1, g1, e1⟩ := key i p hp
    obtain ⟨r2, g2, e2⟩ := key j q hq
    exact hD.1 i j r1 r2 g1 g2 (by rw [e1, e2, e])
  · obtain ⟨r, g, e⟩ := key i q hq
    rw [← e]; exact hD.2 i r g
theorem tW_D {A : Nat → Prop} {k : Nat → ClassId} {a : Nat → Nat} {z z2 : xTS} (h : va_D A (tW k a z)) : va_D A (tW k a z2) := va_D_adr (w1 := tW k a z) (w2 := tW k a z2) rfl h
theorem va_A_adr {w1 w2 : va_W} {sz q : Nat} (h : w1.map (·.1) = w2.map (·.1)) (hA : va_A w1 sz q) : va_A w2 sz q := by
  rcases hA with ⟨i, e, hi⟩ | hA
  · left
    have h1 : (w1.map (·.1))[i]? = some q := by rw [List.getElem?_map, hi]; rfl
    rw [h, List.getElem?_map] at h1
    cases hr : w2[i]? with
    | none => rw [hr] at h1; cases h1
    | some r =>
      rw [hr] at h1
      have e1 : r.1 = q := Option.some.inj h1
      exact ⟨i, r.2, by rw [← e1]; exact hr⟩
  · exact Or.inr hA
/-- the start of a method that writes nothing -/
def tRc (dC : Nat → ClassId) (dI : Nat → Nat → Nat) (k : Nat → ClassId) (a : Nat → Nat) (z : xTS) (av : List Value) : Array Value → State → Prop := va_Pc av (fun U => va_P (dC, dI) vwC (tW k a z) U.heap ∧ va_K (dC, dI) vwC (kT k) U)
/-- the start of a method that writes -/
def tPc (dC : Nat → ClassId) (dI : Nat → Nat → Nat) (k : Nat → ClassId) (a : Nat → Nat) (sz : Nat) (z : xTS) (av : List Value) : Array Value → State → Prop := va_Pc av (fun U => U.heap.size = sz ∧ va_P (dC, dI) vwC (tW k a z) U.heap ∧ va_K (dC, dI) vwC (kT k) U ∧ va_D (fun _ => True) (tW k a z))
abbrev tB (dC : Nat → ClassId) (dI : Nat → Nat → Nat) (k : Nat → ClassId) (a : Nat → Nat) (z : xTS) (t : State) : Prop := va_P (dC, dI) vwC (tW k a z) t.heap
/-- the end of a method that writes: the transaction is the one that f says -/
abbrev tQ (dC : Nat → ClassId) (dI : Nat → Nat → Nat) (k : Nat → ClassId) (a : Nat → Nat) (sz : Nat) (z z2 : xTS) : Array Value → State → Outcome → State → Prop := va_Qv (fun u : xTS => u = z2) (tB dC dI k a) (va_A (tW k a z) sz)
theorem tRc_pre {dC : Nat → ClassId} {dI : Nat → Nat → Nat} {k : Nat → ClassId} {a : Nat → Nat} {z : xTS} {s : State} {H : Heap} (As : List Value) (hP : va_P (dC, dI) vwC (tW k a z) H) (hK : va_K (dC, dI) vwC (kT k) s) : PreV s H R_T (a 0) (tRc dC dI k a z (.ref (a 0) :: As)) As :=
  ⟨fun av U g mk q => by obtain ⟨q0, qP, qK⟩ := q; exact ⟨q0, qP, va_K.moved (u := U) (U := U.calling g mk av) (Vm.Alike.refl U.vm) qK⟩, va_recv (q0 := 0) (ci := 0) (q := (R_T, F_T, 6)) hK hP rfl rfl, fun U hU hW => ⟨rfl, by rw [hU]; exact hP, va_K.moved hW.alike hK⟩⟩
theorem tPc_pre {dC : Nat → ClassId} {dI : Nat → Nat → Nat} {k : Nat → ClassId} {a : Nat → Nat} {z : xTS} {s : State} {H : Heap} {A : Nat → Prop} (As : List Value) (hP : va_P (dC, dI) vwC (tW k a z) H) (hK : va_K (dC, dI) vwC (kT k) s) (hD : va_D A (tW k a z)) : PreV s H R_T (a 0) (tPc dC dI k a H.size z (.ref (a 0) :: As)) As :=
  ⟨fun av U g mk q => by obtain ⟨q0, q1, qP, qK, qD⟩ := q; exact ⟨q0, q1, qP, va_K.moved (u := U) (U := U.calling g mk av) (Vm.Alike.refl U.vm) qK, qD⟩, va_recv (q0 := 0) (ci := 0) (q := (R_T, F_T, 6)) hK hP rfl rfl, fun U hU hW => ⟨rfl, by rw [hU], by rw [hU]; exact hP, va_K.moved hW.alike hK, hD.weaken (fun _ _ _ _ => trivial)⟩⟩
section XA
variable {p : Program} {l : Launch} {e : Env} {R : Room} {s : State} {m : MethodId} {args : Array Value} {below : List Frame} {meth : Method} {c : Code} {H : Heap} {locs : List Loc} {cells slots : Nat} {Q : State → Prop}
variable {cc : ByteArray} {pc : Nat} {ls : Array Slot} {rest : List Value} {D : va_G} {cl : List vw_C} {a : Nat} {tys : List (ClassId × FieldType)} {ws : va_W}
/-- a row out of an array of long[] -/
theorem xa_aald (hexec : p.tables.exec = Jvm.exec) (hb : c.code = cc) (hK : va_K D cl tys s) (hP : va_P D cl ws H) (q0 t0 : Nat) {cA : ClassId} {n r : Nat} {f : Nat → Option Nat} (ha : ws[q0]? = some (a, .inl (cA, n, .inr (.inr (.inr (.inr f)))))) (ht : tys[t0]? = some (cA, .array .long)) {i : Int32} (hin : vp_in i n) (hf : f i.toNatClampNeg = some r) (hdg : decode cc pc = .ok (.aaload, 1))
    (kk : W p l e R s m args below meth c H locs cells slots Q (F0 m (pc + 1) ls (.ref r :: rest))) : W p l e R s m args below meth c H locs cells slots Q (F0 m pc ls (.int i :: .ref a :: rest)) := by
  have hlt : i.toNatClampNeg < n := Nat.not_le.mp fun q => hin (Or.inr q)
  refine W.aald (v := va_rf (f i.toNatClampNeg)) (ty := .array .long) hexec hb (hP q0 _ ha) ((hK.2 t0 _ ht).1 n (fun j => va_rf (f j))) rfl (fun q => by cases q) (by show ¬ (i < 0 ∨ (arrV _ _ _).slots.size ≤ _); rw [arrV_size]; exact hin) (by show (arrV _ _ _).slots[_]? = _; rw [arrV_read _ _ hlt]) rfl rfl hdg ?_
  rw [hf]
  exact kk
end XA
theorem cl_nI {n : Nat} (h : n < 2 ^ 31) : (nI n).toNatClampNeg = n := nI_clamp h
