/-! The reference's cells in the heap, and what the contracts of its methods begin and end with. -/
def mW (k : Nat → ClassId) (a : Nat → Nat) (r : xRS) : va_W := [(a 0, .inr (2, [.int (zE r), .ref (a 1), .ref (a 2), .ref (a 3), .ref (a 4), .ref (a 5), .ref (a 6), .ref (a 7), .ref (a 8), .int (zD r), .int (zL r)])),
  (a 1, .inl (k 1, 32, .inr (.inl (zC r)))), (a 2, .inl (k 1, 1280, .inr (.inl (zW r)))), (a 3, .inl (k 0, 32, .inl (zG r))), (a 4, .inl (k 0, 8, .inl (fun t => nI (zP r t)))), (a 5, .inl (k 0, 256, .inl (zS r))),
  (a 6, .inl (k 4, 1280, .inl (fun j => bI (zH r j)))), (a 7, .inl (k 4, 256, .inl (fun j => bI (zR r j)))), (a 8, .inl (k 4, 8, .inl (fun j => bI (zO r j))))]
theorem mW_D {A : Nat → Prop} {k : Nat → ClassId} {a : Nat → Nat} {r r2 : xRS} (h : va_D A (mW k a r)) : va_D A (mW k a r2) := va_D_adr (w1 := mW k a r) (w2 := mW k a r2) rfl h
theorem bI_upd (f : Nat → Bool) (i : Nat) (b : Bool) : upd (fun j => bI (f j)) i (vp_nar .boolean (bI b)) = fun j => bI (va_up f i b j) := by
  funext j
  rw [bI_vnar]
  by_cases e : j = i
  · subst e; rw [pk_us, va_up_self]
  · rw [pk_un e, va_up_ne _ _ e]
theorem nI_upd (f : Nat → Nat) (i n : Nat) : upd (fun j => nI (f j)) i (nI n) = fun j => nI (va_up f i n j) := by
  funext j
  by_cases e : j = i
  · subst e; rw [pk_us, va_up_self]
  · rw [pk_un e, va_up_ne _ _ e]
def mRc (dC : Nat → ClassId) (dI : Nat → Nat → Nat) (k : Nat → ClassId) (a : Nat → Nat) (r : xRS) (av : List Value) : Array Value → State → Prop := va_Pc av (fun U => va_P (dC, dI) vwC (mW k a r) U.heap ∧ va_K (dC, dI) vwC (kT k) U)
def mPc (dC : Nat → ClassId) (dI : Nat → Nat → Nat) (k : Nat → ClassId) (a : Nat → Nat) (sz : Nat) (r : xRS) (av : List Value) : Array Value → State → Prop := va_Pc av (fun U => U.heap.size = sz ∧ va_P (dC, dI) vwC (mW k a r) U.heap ∧ va_K (dC, dI) vwC (kT k) U ∧ va_D (fun _ => True) (mW k a r))
abbrev mB (dC : Nat → ClassId) (dI : Nat → Nat → Nat) (k : Nat → ClassId) (a : Nat → Nat) (r : xRS) (t : State) : Prop := va_P (dC, dI) vwC (mW k a r) t.heap
theorem mRc_pre {dC : Nat → ClassId} {dI : Nat → Nat → Nat} {k : Nat → ClassId} {a : Nat → Nat} {r : xRS} {s : State} {H : Heap} (As : List Value) (hP : va_P (dC, dI) vwC (mW k a r) H) (hK : va_K (dC, dI) vwC (kT k) s) : PreV s H R_M (a 0) (mRc dC dI k a r (.ref (a 0) :: As)) As :=
  ⟨fun av U g mk q => by obtain ⟨q0, qP, qK⟩ := q; exact ⟨q0, qP, va_K.moved (u := U) (U := U.calling g mk av) (Vm.Alike.refl U.vm) qK⟩, va_recv (q0 := 0) (ci := 2) (q := (R_M, F_M, 11)) hK hP rfl rfl, fun U hU hW => ⟨rfl, by rw [hU]; exact hP, va_K.moved hW.alike hK⟩⟩
theorem mPc_pre {dC : Nat → ClassId} {dI : Nat → Nat → Nat} {k : Nat → ClassId} {a : Nat → Nat} {r : xRS} {s : State} {H : Heap} {A : Nat → Prop} (As : List Value) (hP : va_P (dC, dI) vwC (mW k a r) H) (hK : va_K (dC, dI) vwC (kT k) s) (hD : va_D A (mW k a r)) : PreV s H R_M (a 0) (mPc dC dI k a H.size r (.ref (a 0) :: As)) As :=
  ⟨fun av U g mk q => by obtain ⟨q0, q1, qP, qK, qD⟩ := q; exact ⟨q0, q1, qP, va_K.moved (u := U) (U := U.calling g mk av) (Vm.Alike.refl U.vm) qK, qD⟩, va_recv (q0 := 0) (ci := 2) (q := (R_M, F_M, 11)) hK hP rfl rfl, fun U hU hW => ⟨rfl, by rw [hU], by rw [hU]; exact hP, va_K.moved hW.alike hK, hD.weaken (fun _ _ _ _ => trivial)⟩⟩
/-- an open transaction has one to five parts -/
def mOk (r : xRS) : Prop := ∀ t, t < 8 → zO r t = true → 1 ≤ zP r t ∧ zP r t ≤ 5
theorem in_ix {x : Int32} {n : Nat} {N : Int64} (hN : N.toInt = (n : Int)) : decide (0 ≤ x.toInt64 ∧ x.toInt64 ≤ N) = (ix (n + 1) x).isSome := by
  have h1 : (0 : Int64) ≤ x.toInt64 ↔ 0 ≤ x.toInt := by rw [Int64.le_iff_toInt_le, Int32.toInt_toInt64]; exact Iff.rfl
  have h2 : x.toInt64 ≤ N ↔ x.toInt < ((n + 1 : Nat) : Int) := by rw [Int64.le_iff_toInt_le, Int32.toInt_toInt64, hN]; omega
  unfold ix
  by_cases h : 0 ≤ x.toInt ∧ x.toInt < ((n + 1 : Nat) : Int)
  · rw [if_pos h, decide_eq_true ⟨h1.mpr h.1, h2.mpr h.2⟩]; rfl
  · rw [if_neg h, decide_eq_false (fun q => h ⟨h1.mp q.1, h2.mp q.2⟩)]; rfl
theorem xi_dec (a : Nat) : nI (a + 1) + Int32.ofInt (-1) = nI a := pk_m1 a
