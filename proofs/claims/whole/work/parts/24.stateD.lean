/-! The desk's cells in the heap, and what the contracts of its methods begin and end with. -/
/-- the addresses of transaction j -/
abbrev yA (b : Nat → Nat) (j : Nat) : Nat → Nat := fun i => b (4 + 8 * j + i)
def dH (k : Nat → ClassId) (b : Nat → Nat) (d : xDS) : va_W := [(b 0, .inr (1, [.ref (b 1), .ref (b 2), .ref (b 3), .int (yD d), .int (yS d)])), (b 1, .inl (k 1, 32, .inr (.inl (yN d)))), (b 2, .inl (k 0, 32, .inl (yC d))), (b 3, .inl (k 3, 8, .inr (.inr (.inr (.inr (fun i => some (yA b i 0)))))))]
def dT (k : Nat → ClassId) (b : Nat → Nat) (f : Nat → xTS) : va_W := tW k (yA b 0) (f 0) ++ (tW k (yA b 1) (f 1) ++ (tW k (yA b 2) (f 2) ++ (tW k (yA b 3) (f 3) ++ (tW k (yA b 4) (f 4) ++ (tW k (yA b 5) (f 5) ++ (tW k (yA b 6) (f 6) ++ tW k (yA b 7) (f 7)))))))
def dW (k : Nat → ClassId) (b : Nat → Nat) (d : xDS) : va_W := dH k b d ++ dT k b (yT d)
theorem dT_at {k : Nat → ClassId} {b : Nat → Nat} {f : Nat → xTS} {j i : Nat} (hj : j < 8) (hi : i < 8) : (dT k b f)[8 * j + i]? = (tW k (yA b j) (f j))[i]? := by
  rcases (show j = 0 ∨ j = 1 ∨ j = 2 ∨ j = 3 ∨ j = 4 ∨ j = 5 ∨ j = 6 ∨ j = 7 by omega) with rfl | rfl | rfl | rfl | rfl | rfl | rfl | rfl <;>
  rcases (show i = 0 ∨ i = 1 ∨ i = 2 ∨ i = 3 ∨ i = 4 ∨ i = 5 ∨ i = 6 ∨ i = 7 by omega) with rfl | rfl | rfl | rfl | rfl | rfl | rfl | rfl <;> rfl
theorem dT_len {k : Nat → ClassId} {b : Nat → Nat} {f : Nat → xTS} : (dT k b f).length = 64 := rfl
theorem dW_at {k : Nat → ClassId} {b : Nat → Nat} {d : xDS} {j i : Nat} (hj : j < 8) (hi : i < 8) : (dW k b d)[4 + 8 * j + i]? = (tW k (yA b j) (yT d j))[i]? := by
  rw [← dT_at (k := k) (b := b) (f := yT d) hj hi]
  show (dH k b d ++ dT k b (yT d))[4 + 8 * j + i]? = _
  rw [List.getElem?_append_right (by show 4 ≤ _; omega), show (dH k b d).length = 4 from rfl, show 4 + 8 * j + i - 4 = 8 * j + i by omega]
theorem dW_hd {k : Nat → ClassId} {b : Nat → Nat} {d : xDS} {n : Nat} (hn : n < 4) : (dW k b d)[n]? = (dH k b d)[n]? := List.getElem?_append_left hn
theorem dW_no {k : Nat → ClassId} {b : Nat → Nat} {d : xDS} {n : Nat} (hn : 68 ≤ n) : (dW k b d)[n]? = none := List.getElem?_eq_none hn
theorem dW_ix (n : Nat) : n < 4 ∨ (∃ j i, j < 8 ∧ i < 8 ∧ n = 4 + 8 * j + i) ∨ 68 ≤ n := by
  rcases Nat.lt_or_ge n 4 with h | h
  · exact Or.inl h
  · rcases Nat.lt_or_ge n 68 with g | g
    · exact Or.inr (Or.inl ⟨(n - 4) / 8, (n - 4) % 8, by omega, by omega, by omega⟩)
    · exact Or.inr (Or.inr g)
theorem dW_D {A : Nat → Prop} {k : Nat → ClassId} {b : Nat → Nat} {d d2 : xDS} (h : va_D A (dW k b d)) : va_D A (dW k b d2) := va_D_adr (w1 := dW k b d) (w2 := dW k b d2) rfl h
theorem dW_t {D : va_G} {cl : List vw_C} {k : Nat → ClassId} {b : Nat → Nat} {d : xDS} {H : Heap} {j : Nat} (hj : j < 8) (hP : va_P D cl (dW k b d) H) : va_P D cl (tW k (yA b j) (yT d j)) H := fun i q hq => by
  have hi : i < 8 := (List.getElem?_eq_some_iff.mp hq).1
  exact hP (4 + 8 * j + i) q (by rw [dW_at hj hi]; exact hq)
theorem dW_tD {A : Nat → Prop} {k : Nat → ClassId} {b : Nat → Nat} {d : xDS} {j : Nat} (hj : j < 8) (hD : va_D A (dW k b d)) : va_D A (tW k (yA b j) (yT d j)) := by
  refine ⟨fun i1 i2 p q hp hq e => ?_, fun i q hq => ?_⟩
  · have h1 : i1 < 8 := (List.getElem?_eq_some_iff.mp hp).1
    have h2 : i2 < 8 := (List.getElem?_eq_some_iff.mp hq).1
    have := hD.1 (4 + 8 * j + i1) (4 + 8 * j + i2) p q (by rw [dW_at hj h1]; exact hp) (by rw [dW_at hj h2]; exact hq) e
    omega
  · have hi : i < 8 := (List.getElem?_eq_some_iff.mp hq).1
    exact hD.2 (4 + 8 * j + i) q (by rw [dW_at hj hi]; exact hq)
theorem dW_free {A : Nat → Prop} {k : Nat → ClassId} {b : Nat → Nat} {d : xDS} {H0 H : Heap} {locs : List Loc} {j : Nat} (hj : j < 8) (hD : va_D A (dW k b d)) (hS : va_S A H0 H locs) (hA : ∀ q, H0.size ≤ q → A q) : ∀ q, va_A (tW k (yA b j) (yT d j)) H.size q → A q := fun q h => by
  rcases h with ⟨i, e, hi⟩ | h
  · exact (dW_tD hj hD).2 i _ hi
  · exact hA q (Nat.le_trans hS.1 h)
theorem dW_all {A : Nat → Prop} {k : Nat → ClassId} {b : Nat → Nat} {d : xDS} {H0 H : Heap} {locs : List Loc} (hD : va_D A (dW k b d)) (hS : va_S A H0 H locs) (hA : ∀ q, H0.size ≤ q → A q) : ∀ q, va_A (dW k b d) H.size q → A q := fun q h => by
  rcases h with ⟨i, e, hi⟩ | h
  · exact hD.2 i _ hi
  · exact hA q (Nat.le_trans hS.1 h)
/-- a transaction has become another: so has the desk -/
theorem dW_join {D : va_G} {cl : List vw_C} {A : Nat → Prop} {k : Nat → ClassId} {b : Nat → Nat} {d : xDS} {H H1 : Heap} {j : Nat} {z : xTS} (hj : j < 8) (hP : va_P D cl (dW k b d) H) (hD : va_D A (dW k b d)) (hB : va_P D cl (tW k (yA b j) z) H1)
    (hk : ∀ q : Nat, q < H.size → ¬ va_A (tW k (yA b j) (yT d j)) H.size q → H1[q]? = H[q]?) : va_P D cl (dW k b (yN d, yC d, va_up (yT d) j z, yD d, yS d)) H1 := by
  have old : ∀ (n : Nat) (q : Nat × va_E), (dW k b d)[n]? = some q → (∀ i, i < 8 → n ≠ 4 + 8 * j + i) → va_at D cl q H1 := by
    intro n q hq hne
    have h0 := hP n q hq
    refine h0.kept (hk q.1 h0.lt ?_)
    rintro (⟨i, e, hi⟩ | h)
    · have h1 : i < 8 := (List.getElem?_eq_some_iff.mp hi).1
      exact hne i h1 (hD.1 n (4 + 8 * j + i) q (q.1, e) hq (by rw [dW_at hj h1]; exact hi) rfl)
    · exact absurd h0.lt (Nat.not_lt.mpr h)
  intro n q hq
  rcases dW_ix n with hn | ⟨t, i, ht, hi, rfl⟩ | hn
  · rw [dW_hd hn] at hq
    exact old n q (by rw [dW_hd hn]; exact hq) (fun i _ => by omega)
  · rw [dW_at ht hi] at hq
    by_cases e : t = j
    · subst e
      have hz : yT (yN d, yC d, va_up (yT d) t z, yD d, yS d) t = z := va_up_self _ _ _
      rw [hz] at hq
      exact hB i q hq
    · have hz : yT (yN d, yC d, va_up (yT d) j z, yD d, yS d) t = yT d t := va_up_ne _ _ e
      rw [hz] at hq
      exact old _ q (by rw [dW_at ht hi]; exact hq) (fun i1 h1 => by omega)
  · rw [dW_no hn] at hq; cases hq
/-- what the throwing rows need -/
abbrev xN : List String := ["java/lang/RuntimeException", "java/lang/Exception"]
def xL : List Cond := xs_need "CommitDesk" 39 43 qS xN ++ (xs_need "CommitDesk" 68 72 qU xN ++ (xs_need "CommitDesk" 111 115 qA xN ++ xs_need "CommitDesk" 127 131 qB xN))
def xS8 : List (String × Nat × String) := [("CommitDesk", 41, "the transaction is open"), ("CommitDesk", 70, "the transaction was stale"), ("CommitDesk", 88, "no further part"), ("CommitDesk", 113, "no such what"), ("CommitDesk", 125, "no such transaction"), ("CommitDesk", 129, "no such cell"), ("CommitDesk", 132, "the transaction is not open"), ("CommitDesk", 134, "there is one part")]
theorem xL_all : xL.all (fun w => w.onTables && w.keepsCast) = true := by decide +kernel
theorem xL_S : ∀ w ∈ xs_need "CommitDesk" 39 43 qS xN, w ∈ xL := fun w h => List.mem_append_left _ h
theorem xL_U : ∀ w ∈ xs_need "CommitDesk" 68 72 qU xN, w ∈ xL := fun w h => List.mem_append_right _ (List.mem_append_left _ h)
theorem xL_A : ∀ w ∈ xs_need "CommitDesk" 111 115 qA xN, w ∈ xL := fun w h => List.mem_append_right _ (List.mem_append_right _ (List.mem_append_left _ h))
theorem xL_B : ∀ w ∈ xs_need "CommitDesk" 127 131 qB xN, w ∈ xL := fun w h => List.mem_append_right _ (List.mem_append_right _ (List.mem_append_right _ h))
abbrev xTh (U : State) : Prop := xs_Th xL xS8 U
/-- the start of a method of the desk -/
def dPc (dC : Nat → ClassId) (dI : Nat → Nat → Nat) (k : Nat → ClassId) (b : Nat → Nat) (sz : Nat) (d : xDS) (av : List Value) : Array Value → State → Prop := va_Pc av (fun U => U.heap.size = sz ∧ va_P (dC, dI) vwC (dW k b d) U.heap ∧ va_K (dC, dI) vwC (kT k) U ∧ va_D (fun _ => True) (dW k b d) ∧ xTh U)
def dRc (dC : Nat → ClassId) (dI : Nat → Nat → Nat) (k : Nat → ClassId) (b : Nat → Nat) (d : xDS) (av : List Value) : Array Value → State → Prop := va_Pc av (fun U => va_P (dC, dI) vwC (dW k b d) U.heap ∧ va_K (dC, dI) vwC (kT k) U)
abbrev dB (dC : Nat → ClassId) (dI : Nat → Nat → Nat) (k : Nat → ClassId) (b : Nat → Nat) (d : xDS) (t : State) : Prop := va_P (dC, dI) vwC (dW k b d) t.heap
theorem dPc_blind {dC : Nat → ClassId} {dI : Nat → Nat → Nat} {k : Nat → ClassId} {b : Nat → Nat} {sz : Nat} {d : xDS} {av : List Value} : FrameBlind (dPc dC dI k b sz d av) := fun av U g mk q => by
  obtain ⟨q0, q1, qP, qK, qD, qT⟩ := q
  exact ⟨q0, q1, qP, va_K.moved (u := U) (U := U.calling g mk av) (Vm.Alike.refl U.vm) qK, qD, xs_Th.move (U := U.calling g mk av) xL_all (State.WarmedH.refl U) xs_keep.rf qT⟩
theorem dPc_pre {dC : Nat → ClassId} {dI : Nat → Nat → Nat} {k : Nat → ClassId} {b : Nat → Nat} {d : xDS} {s : State} {H : Heap} {A : Nat → Prop} (As : List Value) (hP : va_P (dC, dI) vwC (dW k b d) H) (hK : va_K (dC, dI) vwC (kT k) s) (hD : va_D A (dW k b d)) (hTh : xTh s) (hkp : xs_keep s.heap H) : PreV s H R_D (b 0) (dPc dC dI k b H.size d (.ref (b 0) :: As)) As :=
  ⟨dPc_blind, va_recv (q0 := 0) (ci := 1) (q := (R_D, F_D, 5)) hK hP rfl rfl, fun U hU hW => ⟨rfl, by rw [hU], by rw [hU]; exact hP, va_K.moved hW.alike hK, hD.weaken (fun _ _ _ _ => trivial), hTh.move xL_all hW (by rw [hU]; exact hkp)⟩⟩
theorem dRc_pre {dC : Nat → ClassId} {dI : Nat → Nat → Nat} {k : Nat → ClassId} {b : Nat → Nat} {d : xDS} {s : State} {H : Heap} (As : List Value) (hP : va_P (dC, dI) vwC (dW k b d) H) (hK : va_K (dC, dI) vwC (kT k) s) : PreV s H R_D (b 0) (dRc dC dI k b d (.ref (b 0) :: As)) As :=
  ⟨fun av U g mk q => by obtain ⟨q0, qP, qK⟩ := q; exact ⟨q0, qP, va_K.moved (u := U) (U := U.calling g mk av) (Vm.Alike.refl U.vm) qK⟩, va_recv (q0 := 0) (ci := 1) (q := (R_D, F_D, 5)) hK hP rfl rfl, fun U hU hW => ⟨rfl, by rw [hU]; exact hP, va_K.moved hW.alike hK⟩⟩
theorem xt_upMQ {below : List Frame} {Qc : Array Value → State → Outcome → State → Prop} {a : Array Value} {s : State} {mc ms mc2 ms2 : Nat} {free : Addr → Prop} {t : State} (h1 : mc ≤ mc2) (h2 : ms ≤ ms2) (h : xt_MQ below Qc a s mc ms free t) : xt_MQ below Qc a s mc2 ms2 free t := by
  obtain ⟨o, a1, a2, a3, L, ⟨a4, a5⟩, a6⟩ := h
  exact ⟨o, a1, a2, a3, L, ⟨a4, a5.mono h1 h2⟩, a6⟩
theorem xt_Is.mv {X : String} {x : Nat} {s t t2 : State} (h : xt_Is X x t) (hh : t2.heap = t.heap) (h1 : s.vm.Alike t.vm) (h2 : s.vm.Alike t2.vm) : xt_Is X x t2 := by
  obtain ⟨cell, e1, e2, e3⟩ := h
  exact ⟨cell, by rw [hh]; exact e1, by rw [h2.findClass, ← h1.findClass]; exact e2, e3⟩
section XF
variable {p : Program} {l : Launch} {e : Env} {R : Room} {s : State} {m : MethodId} {args : Array Value} {below : List Frame} {meth : Method} {c : Code} {H : Heap} {locs : List Loc} {cells slots mc ms : Nat} {Qc : Array Value → State → Outcome → State → Prop} {free : Addr → Prop}
/-- the end by return, with room to spare -/
theorem xt_fin {g : JFrame} (h1 : cells ≤ mc) (h2 : slots ≤ ms) (k : W p l e R s m args below meth c H locs cells slots (MQ below Qc args s cells slots free) g) : W p l e R s m args below meth c H locs cells slots (xt_MQ below Qc args s mc ms free) g := xt_mono (fun _ h => xt_upMQ h1 h2 (xt_of_MQ h)) k
theorem xt_thr {g : JFrame} {c1 s1 : Nat} (h1 : c1 ≤ mc) (h2 : s1 ≤ ms) (k : W p l e R s m args below meth c H locs cells slots (xt_MQ below Qc args s c1 s1 free) g) : W p l e R s m args below meth c H locs cells slots (xt_MQ below Qc args s mc ms free) g := xt_mono (fun _ h => xt_upMQ h1 h2 h) k
theorem xt_thrW {g : JFrame} {x : Addr} (h1 : cells ≤ mc) (h2 : slots ≤ ms) (k : xt_W p l e R s m args below meth c H locs cells slots (xt_MQ below Qc args s cells slots free) g x) : xt_W p l e R s m args below meth c H locs cells slots (xt_MQ below Qc args s mc ms free) g x := fun T hT X => by
  obtain ⟨t, a, b⟩ := k T hT X
  exact ⟨t, a, xt_upMQ h1 h2 b⟩
end XF
