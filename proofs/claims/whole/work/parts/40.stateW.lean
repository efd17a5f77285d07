/-! The law's whole world: the answers' cell, the desk, the reference; what stays when one of them changes; the bounds of the loop. -/
theorem va_P_l {D : va_G} {cl : List vw_C} {w1 w2 : va_W} {H : Heap} (h : va_P D cl (w1 ++ w2) H) : va_P D cl w1 H := fun i q hq => h i q (by rw [List.getElem?_append_left (List.getElem?_eq_some_iff.mp hq).1]; exact hq)
theorem va_P_r {D : va_G} {cl : List vw_C} {w1 w2 : va_W} {H : Heap} (h : va_P D cl (w1 ++ w2) H) : va_P D cl w2 H := fun i q hq => h (w1.length + i) q (by rw [List.getElem?_append_right (by omega), show w1.length + i - w1.length = i by omega]; exact hq)
theorem va_D_l {A : Nat → Prop} {w1 w2 : va_W} (h : va_D A (w1 ++ w2)) : va_D A w1 := by
  have e : ∀ (i : Nat) (q : Nat × va_E), w1[i]? = some q → (w1 ++ w2)[i]? = some q := fun i q hq => by rw [List.getElem?_append_left (List.getElem?_eq_some_iff.mp hq).1]; exact hq
  exact ⟨fun i j p q hp hq x => h.1 i j p q (e i p hp) (e j q hq) x, fun i q hq => h.2 i q (e i q hq)⟩
theorem va_D_r {A : Nat → Prop} {w1 w2 : va_W} (h : va_D A (w1 ++ w2)) : va_D A w2 := by
  have e : ∀ (i : Nat) (q : Nat × va_E), w2[i]? = some q → (w1 ++ w2)[w1.length + i]? = some q := fun i q hq => by rw [List.getElem?_append_right (by omega), show w1.length + i - w1.length = i by omega]; exact hq
  exact ⟨fun i j p q hp hq x => by have := h.1 _ _ p q (e i p hp) (e j q hq) x; omega, fun i q hq => h.2 _ q (e i q hq)⟩
theorem xq_ne {A : Nat → Prop} {w1 w2 : va_W} {i j : Nat} {p q : Nat × va_E} (h : va_D A (w1 ++ w2)) (hp : w1[i]? = some p) (hq : w2[j]? = some q) : p.1 ≠ q.1 := fun x => by
  have h1 := (List.getElem?_eq_some_iff.mp hp).1
  have := h.1 i (w1.length + j) p q (by rw [List.getElem?_append_left h1]; exact hp) (by rw [List.getElem?_append_right (by omega), show w1.length + j - w1.length = j by omega]; exact hq) x
  omega
theorem xq_l {D : va_G} {cl : List vw_C} {A : Nat → Prop} {w1 w2 v : va_W} {H H1 : Heap} (hP : va_P D cl (w1 ++ w2) H) (hD : va_D A (w1 ++ w2)) (hB : va_P D cl v H1) (hk : ∀ q : Nat, q < H.size → ¬ va_A w1 H.size q → H1[q]? = H[q]?) : va_P D cl (v ++ w2) H1 :=
  hB.app (fun i q hq => by
    have h0 := va_P_r hP i q hq
    refine h0.kept (hk q.1 h0.lt ?_)
    rintro (⟨j, e, hj⟩ | h)
    · exact xq_ne hD hj hq rfl
    · exact absurd h0.lt (Nat.not_lt.mpr h))
theorem xq_r {D : va_G} {cl : List vw_C} {A : Nat → Prop} {w1 w2 v : va_W} {H H1 : Heap} (hP : va_P D cl (w1 ++ w2) H) (hD : va_D A (w1 ++ w2)) (hB : va_P D cl v H1) (hk : ∀ q : Nat, q < H.size → ¬ va_A w2 H.size q → H1[q]? = H[q]?) : va_P D cl (w1 ++ v) H1 :=
  va_P.app (fun i q hq => by
    have h0 := va_P_l hP i q hq
    refine h0.kept (hk q.1 h0.lt ?_)
    rintro (⟨j, e, hj⟩ | h)
    · exact xq_ne hD hq hj rfl
    · exact absurd h0.lt (Nat.not_lt.mpr h)) hB
theorem xq_free {A : Nat → Prop} {w : va_W} {H0 H : Heap} {locs : List Loc} (hD : va_D A w) (hS : va_S A H0 H locs) (hA : ∀ q, H0.size ≤ q → A q) : ∀ q, va_A w H.size q → A q := fun q h => by
  rcases h with ⟨i, e, hi⟩ | h
  · exact hD.2 i _ hi
  · exact hA q (Nat.le_trans hS.1 h)
def qW (k : Nat → ClassId) (b : Nat → Nat) (o : Nat) (a : Nat → Nat) (d : xDS) (g : Nat → Int64) (r : xRS) : va_W := lW k b o d g ++ mW k a r
theorem qW_D {A : Nat → Prop} {k : Nat → ClassId} {b : Nat → Nat} {o : Nat} {a : Nat → Nat} {d d2 : xDS} {g g2 : Nat → Int64} {r r2 : xRS} (h : va_D A (qW k b o a d g r)) : va_D A (qW k b o a d2 g2 r2) := va_D_adr (w1 := qW k b o a d g r) (w2 := qW k b o a d2 g2 r2) rfl h
theorem sim_dOk {bn : Nat → Nat} {d : xDS} {r : xRS} (h : Sim bn d r) : dOk d := fun t ht ho => by
  have h1 := (h.2.2.2.2 t ht).2 ho
  exact ⟨h1.1.1, h1.1.2.1⟩
theorem sim_mOk {bn : Nat → Nat} {d : xDS} {r : xRS} (h : Sim bn d r) : mOk r := fun t ht ho => by
  have h0 := h.2.2.2.2 t ht
  have h1 := h0.2 (h0.1.trans ho)
  rw [h1.1.2.2]
  exact ⟨h1.1.1, h1.1.2.1⟩
theorem cd_ne {L : List String} {X : String} (hL : L.length < 2 ^ 30) : ¬ cdOf L (some X) = 0 := nI_ne0 (by omega) (by have := List.idxOf_le_length (a := X) (l := L); omega)
theorem lg_cmp_self (x : Int64) : lg_cmp x x = 0 := by
  unfold lg_cmp
  simp
/-- the loop's bound, with no fear of less than five -/
theorem lp_gt {i L : Nat} (hi : i ≤ 2560) (hL : L ≤ 2560) : (nI L - nI 5 < nI i) ↔ L < i + 5 := by
  have h5 : (nI L - nI 5).toInt = (L : Int) - 5 := by
    rw [Int32.toInt_sub, nI_toInt (by omega), nI_toInt (by omega)]
    apply Int.bmod_eq_of_le <;> omega
  rw [Int32.lt_iff_toInt_lt, h5, nI_toInt (by omega)]
  omega
section XW
variable {p : Program} {l : Launch} {e : Env} {R : Room} {s : State} {m : MethodId} {args : Array Value} {below : List Frame} {meth : Method} {c : Code} {H : Heap} {locs : List Loc} {cells slots c2 s2 : Nat} {Q : State → Prop}
theorem w_up {g : JFrame} (h1 : cells ≤ c2) (h2 : slots ≤ s2) (k : W p l e R s m args below meth c H locs c2 s2 Q g) : W p l e R s m args below meth c H locs cells slots Q g := fun T hT X =>
  k T hT ⟨X.admits, X.cas, X.clock, X.frames, X.room, X.hears, X.method, X.code, X.here, X.tail, X.warmed, X.limits, X.bytes, X.same.mono h1 h2⟩
end XW
