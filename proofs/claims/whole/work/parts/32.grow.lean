/-! Worlds that grow while a constructor makes the desk: one object becomes a transaction's eight cells; at the end the cells are the desk's. -/
theorem xw_join {D : va_G} {cl : List vw_C} {A : Nat → Prop} {w v : va_W} {q : Nat} {e : va_E} {H H1 H0 : Heap} (hP : va_P D cl (w ++ [(q, e)]) H) (hD : va_D A (w ++ [(q, e)])) (hA : ∀ x : Nat, H0.size ≤ x → A x) (hS : H0.size ≤ H.size) (hB : va_P D cl v H1) (hDv : va_D (va_A [(q, e)] H.size) v)
    (hk : ∀ x : Nat, x < H.size → ¬ va_A [(q, e)] H.size x → H1[x]? = H[x]?) : va_P D cl (w ++ v) H1 ∧ va_D A (w ++ v) := by
  have hl : ∀ (i : Nat) (x : Nat × va_E), w[i]? = some x → (w ++ [(q, e)])[i]? = some x := fun i x hx => by rw [List.getElem?_append_left (List.getElem?_eq_some_iff.mp hx).1]; exact hx
  have hn : (w ++ [(q, e)])[w.length]? = some (q, e) := by rw [List.getElem?_append_right (Nat.le_refl _), Nat.sub_self]; rfl
  have hne : ∀ (i : Nat) (x : Nat × va_E), w[i]? = some x → x.1 ≠ q := fun i x hx h => by
    have h1 := (List.getElem?_eq_some_iff.mp hx).1
    have h2 := hD.1 i w.length x (q, e) (hl i x hx) hn h
    omega
  have hin : ∀ x : Nat, va_A [(q, e)] H.size x → x = q ∨ H.size ≤ x := fun x h => by
    rcases h with ⟨i, e1, h⟩ | h
    · have hz : i < 1 := (List.getElem?_eq_some_iff.mp h).1
      rw [show i = 0 by omega] at h
      cases h
      exact Or.inl rfl
    · exact Or.inr h
  have hout : ∀ (i : Nat) (x : Nat × va_E), w[i]? = some x → ¬ va_A [(q, e)] H.size x.1 := fun i x hx h => by
    have h1 := (hP i x (hl i x hx)).lt
    rcases hin x.1 h with h | h
    · exact hne i x hx h
    · omega
  refine ⟨va_P.app (fun i x hx => ?_) hB, va_D.app ⟨fun i j x y hx hy h => hD.1 i j x y (hl i x hx) (hl j y hy) h, fun i x hx => hD.2 i x (hl i x hx)⟩ (hDv.weaken (fun _ x _ h => ?_)) (fun i j x y hx hy h => ?_)⟩
  · exact (hP i x (hl i x hx)).kept (hk x.1 ((hP i x (hl i x hx)).lt) (hout i x hx))
  · rcases hin x.1 h with h | h
    · rw [h]; exact hD.2 _ _ hn
    · exact hA _ (Nat.le_trans hS h)
  · exact hout i x hx (by rw [h]; exact hDv.2 j y hy)
/-- an array of references, seen below its length only -/
theorem xw_refs {D : va_G} {cl : List vw_C} {a n : Nat} {cA : ClassId} {f g : Nat → Option Nat} {H : Heap} (hfg : ∀ j, j < n → f j = g j) (h : va_at D cl (a, .inl (cA, n, .inr (.inr (.inr (.inr f))))) H) : va_at D cl (a, .inl (cA, n, .inr (.inr (.inr (.inr g))))) H := by
  have h1 : H[a]? = some (arrV cA n (fun j => va_rf (f j))) := h
  have h2 : arrV cA n (fun j => va_rf (f j)) = arrV cA n (fun j => va_rf (g j)) := by
    unfold arrV
    refine congrArg (fun z => ({ cls := cA, slots := z, vm := .none } : Cell)) ?_
    apply Array.ext
    · simp
    · intro j h3 h4
      have hj : j < n := by simpa using h3
      simp [hfg j hj]
  show H[a]? = some (arrV cA n (fun j => va_rf (g j)))
  rw [h1, h2]
theorem xw_tW {D : va_G} {cl : List vw_C} {k : Nat → ClassId} {a a2 : Nat → Nat} {z : xTS} {H : Heap} (h : ∀ e, e < 8 → a e = a2 e) (hP : va_P D cl (tW k a z) H) : va_P D cl (tW k a2 z) H := by
  have e0 := h 0 (by omega); have e1 := h 1 (by omega); have e2 := h 2 (by omega); have e3 := h 3 (by omega); have e4 := h 4 (by omega); have e5 := h 5 (by omega); have e6 := h 6 (by omega); have e7 := h 7 (by omega)
  intro i q hq
  have hi : i < 8 := (List.getElem?_eq_some_iff.mp hq).1
  rcases (show i = 0 ∨ i = 1 ∨ i = 2 ∨ i = 3 ∨ i = 4 ∨ i = 5 ∨ i = 6 ∨ i = 7 by omega) with rfl | rfl | rfl | rfl | rfl | rfl | rfl | rfl
  · cases hq; have g := hP 0 _ rfl; rw [e0, e1, e2] at g; exact g
  · cases hq; have g := hP 1 _ rfl; rw [e1] at g; exact g
  · cases hq; have g := hP 2 _ rfl; rw [e2] at g; exact xw_refs (fun j hj => by rw [h (3 + j) (by omega)]) g
  · cases hq; have g := hP 3 _ rfl; rw [e3] at g; exact g
  · cases hq; have g := hP 4 _ rfl; rw [e4] at g; exact g
  · cases hq; have g := hP 5 _ rfl; rw [e5] at g; exact g
  · cases hq; have g := hP 6 _ rfl; rw [e6] at g; exact g
  · cases hq; have g := hP 7 _ rfl; rw [e7] at g; exact g
theorem xw_tA {k : Nat → ClassId} {a : Nat → Nat} {z : xTS} {i : Nat} (hi : i < 8) : ∃ e, (tW k a z)[i]? = some (a i, e) := by
  rcases (show i = 0 ∨ i = 1 ∨ i = 2 ∨ i = 3 ∨ i = 4 ∨ i = 5 ∨ i = 6 ∨ i = 7 by omega) with rfl | rfl | rfl | rfl | rfl | rfl | rfl | rfl <;> exact ⟨_, rfl⟩
/-- the desk while it is made: its object, its arrays -/
def dh (k : Nat → ClassId) (a0 q1 q2 q3 : Nat) (f : Nat → Option Nat) : va_W := [(a0, .inr (1, [.ref q1, .ref q2, .ref q3, .int 0, .int 0])), (q1, .inl (k 1, 32, .inr (.inl (fun _ => 0)))), (q2, .inl (k 0, 32, .inl (fun _ => 0))), (q3, .inl (k 3, 8, .inr (.inr (.inr (.inr f)))))]
/-- i transactions are made -/
def dMade (k : Nat → ClassId) (i : Nat) (rest : va_W) (u : Nat → Nat → Nat) (f : Nat → Option Nat) : Prop := rest.length = 8 * i ∧ (∀ t e, t < i → e < 8 → rest[8 * t + e]? = (tW k (u t) tNew)[e]?) ∧ ∀ t, t < i → f t = some (u t 0)
theorem dMade_0 (k : Nat → ClassId) (f : Nat → Option Nat) (u : Nat → Nat → Nat) : dMade k 0 [] u f := ⟨rfl, fun _ _ h => absurd h (Nat.not_lt_zero _), fun _ h => absurd h (Nat.not_lt_zero _)⟩
theorem dMade_s {k : Nat → ClassId} {i q : Nat} {rest : va_W} {u : Nat → Nat → Nat} {f : Nat → Option Nat} {v : Nat → Nat} (h : dMade k i rest u f) (hv : v 0 = q) : dMade k (i + 1) (rest ++ tW k v tNew) (va_up u i v) (va_up f i (some q)) := by
  obtain ⟨h1, h2, h3⟩ := h
  refine ⟨by rw [List.length_append, h1]; show 8 * i + 8 = _; omega, fun t e ht he => ?_, fun t ht => ?_⟩
  · by_cases c : t = i
    · subst c
      rw [va_up_self, List.getElem?_append_right (by omega), h1, show 8 * t + e - 8 * t = e by omega]
    · rw [va_up_ne _ _ c, List.getElem?_append_left (by rw [h1]; omega)]
      exact h2 t e (by omega) he
  · by_cases c : t = i
    · subst c; rw [va_up_self, va_up_self, hv]
    · rw [va_up_ne _ _ c, va_up_ne _ _ c]; exact h3 t (by omega)
/-- the addresses of the whole -/
def xaD (a0 q1 q2 q3 : Nat) (u : Nat → Nat → Nat) : Nat → Nat
  | 0 => a0
  | 1 => q1
  | 2 => q2
  | 3 => q3
  | n + 4 => u (n / 8) (n % 8)
theorem xaD_t (a0 q1 q2 q3 : Nat) (u : Nat → Nat → Nat) {t e : Nat} (he : e < 8) : yA (xaD a0 q1 q2 q3 u) t e = u t e := by
  show xaD a0 q1 q2 q3 u (4 + 8 * t + e) = _
  rw [show 4 + 8 * t + e = (8 * t + e) + 4 by omega]
  show u ((8 * t + e) / 8) ((8 * t + e) % 8) = _
  rw [show (8 * t + e) / 8 = t by omega, show (8 * t + e) % 8 = e by omega]
theorem dMade_P {D : va_G} {cl : List vw_C} {k : Nat → ClassId} {a0 q1 q2 q3 : Nat} {rest : va_W} {u : Nat → Nat → Nat} {f : Nat → Option Nat} {H : Heap} (h : dMade k 8 rest u f) (hP : va_P D cl (dh k a0 q1 q2 q3 f ++ rest) H) : va_P D cl (dW k (xaD a0 q1 q2 q3 u) yNew) H := by
  obtain ⟨h1, h2, h3⟩ := h
  intro n q hq
  rcases dW_ix n with hn | ⟨t, i, ht, hi, rfl⟩ | hn
  · rw [dW_hd hn] at hq
    rcases (show n = 0 ∨ n = 1 ∨ n = 2 ∨ n = 3 by omega) with rfl | rfl | rfl | rfl
    · cases hq; exact hP 0 _ rfl
    · cases hq; exact hP 1 _ rfl
    · cases hq; exact hP 2 _ rfl
    · cases hq; exact xw_refs (fun j hj => by rw [h3 j hj, xaD_t _ _ _ _ _ (by omega)]) (hP 3 _ rfl)
  · rw [dW_at ht hi] at hq
    refine xw_tW (a := u t) (fun e he => (xaD_t _ _ _ _ _ he).symm) (fun i2 q2 hq2 => ?_) i q hq
    have hi2 : i2 < 8 := (List.getElem?_eq_some_iff.mp hq2).1
    refine hP (4 + (8 * t + i2)) q2 ?_
    rw [List.getElem?_append_right (by show 4 ≤ _; omega), show 4 + (8 * t + i2) - (dh k a0 q1 _ q3 f).length = 8 * t + i2 by show 4 + (8 * t + i2) - 4 = _; omega, h2 t i2 ht hi2]
    exact hq2
  · rw [dW_no hn] at hq; cases hq
theorem dMade_D {A : Nat → Prop} {k : Nat → ClassId} {a0 q1 q2 q3 : Nat} {rest : va_W} {u : Nat → Nat → Nat} {f : Nat → Option Nat} (h : dMade k 8 rest u f) (hD : va_D A (dh k a0 q1 q2 q3 f ++ rest)) : va_D A (dW k (xaD a0 q1 q2 q3 u) yNew) := by
  obtain ⟨h1, h2, h3⟩ := h
  have key : ∀ (n : Nat) (q : Nat × va_E), (dW k (xaD a0 q1 q2 q3 u) yNew)[n]? = some q → ∃ r : Nat × va_E, (dh k a0 q1 q2 q3 f ++ rest)[n]? = some r ∧ r.1 = q.1 := by
    intro n q hq
    rcases dW_ix n with hn | ⟨t, i, ht, hi, rfl⟩ | hn
    · rw [dW_hd hn] at hq
      rcases (show n = 0 ∨ n = 1 ∨ n = 2 ∨ n = 3 by omega) with rfl | rfl | rfl | rfl <;> (cases hq; exact ⟨_, rfl, rfl⟩)
    · rw [dW_at ht hi] at hq
      obtain ⟨e1, g1⟩ := xw_tA (k := k) (a := yA (xaD a0 q1 q2 q3 u) t) (z := yT yNew t) hi
      obtain ⟨e2, g2⟩ := xw_tA (k := k) (a := u t) (z := tNew) hi
      have hq1 : q.1 = yA (xaD a0 q1 q2 q3 u) t i := by rw [g1] at hq; cases hq; rfl
      refine ⟨(u t i, e2), ?_, by rw [hq1, xaD_t _ _ _ _ _ hi]⟩
      rw [List.getElem?_append_right (by show 4 ≤ _; omega), show 4 + 8 * t + i - (dh k a0 q1 q2 q3 f).length = 8 * t + i by show 4 + 8 * t + i - 4 = _; omega, h2 t i ht hi]
      exact g2
    · rw [dW_no hn] at hq; cases hq
  refine ⟨fun i j p q hp hq e => ?_, fun i q hq => ?_⟩
  · obtain ⟨r1, g1, e1⟩ := key i p hp
    obtain ⟨r2, g2, e2⟩ := key j q hq
    exact hD.1 i j r1 r2 g1 g2 (by rw [e1, e2, e])
  · obtain ⟨r, g, e⟩ := key i q hq
    rw [← e]; exact hD.2 i r g
