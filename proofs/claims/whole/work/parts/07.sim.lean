/-! The desk and the reference go side by side: pure, no machine. -/
theorem up_s {α : Type} (f : Nat → α) (k : Nat) (v : α) : va_up f k v k = v := va_up_self f k v
theorem zClr_at {f : Nat → Bool} {b : Nat} : ∀ (n j : Nat), zClr f b n j = if b ≤ j ∧ j < b + n then false else f j
  | 0, j => by rw [if_neg (by omega)]; rfl
  | n + 1, j => by
    show va_up (zClr f b n) (b + n) false j = _
    by_cases h : j = b + n
    · subst h; rw [va_up_self, if_pos (by omega)]
    · rw [va_up_ne _ _ h, zClr_at n j]
      by_cases h2 : b ≤ j ∧ j < b + n
      · rw [if_pos h2, if_pos (by omega)]
      · rw [if_neg h2, if_neg (by omega)]
theorem zCpB_at {f : Nat → Bool} {a b : Nat} : ∀ (n j : Nat), (a + n ≤ b ∨ b + n ≤ a) → zCpB f a b n j = if b ≤ j ∧ j < b + n then f (a + (j - b)) else f j
  | 0, j, _ => by rw [if_neg (by omega)]; rfl
  | n + 1, j, hd => by
    show va_up (zCpB f a b n) (b + n) (zCpB f a b n (a + n)) j = _
    by_cases h : j = b + n
    · subst h
      rw [va_up_self, if_pos (by omega), zCpB_at n (a + n) (by omega), if_neg (by omega)]
      congr 1; omega
    · rw [va_up_ne _ _ h, zCpB_at n j (by omega)]
      by_cases h2 : b ≤ j ∧ j < b + n
      · rw [if_pos h2, if_pos (by omega)]
      · rw [if_neg h2, if_neg (by omega)]
theorem zCpL_at {f : Nat → Int64} {a b : Nat} : ∀ (n j : Nat), (a + n ≤ b ∨ b + n ≤ a) → zCpL f a b n j = if b ≤ j ∧ j < b + n then f (a + (j - b)) else f j
  | 0, j, _ => by rw [if_neg (by omega)]; rfl
  | n + 1, j, hd => by
    show vp_updL (zCpL f a b n) (b + n) (zCpL f a b n (a + n)) j = _
    by_cases h : j = b + n
    · subst h
      rw [pk_uLs, if_pos (by omega), zCpL_at n (a + n) (by omega), if_neg (by omega)]
      congr 1; omega
    · rw [pk_uLn h, zCpL_at n j (by omega)]
      by_cases h2 : b ≤ j ∧ j < b + n
      · rw [if_pos h2, if_pos (by omega)]
      · rw [if_neg h2, if_neg (by omega)]
/-- what ties transaction t of the reference to a transaction of the desk -/
def SimO (r : xRS) (t : Nat) (z : xTS) : Prop := (1 ≤ xP z ∧ xP z ≤ 5 ∧ zP r t = xP z) ∧ (∀ k, k < 32 → bt (xR z) k = zR r (32 * t + k)) ∧ (∀ k, k < 32 → zR r (32 * t + k) = true → ∃ a c : Nat, a ≤ c ∧ c < 2 ^ 31 ∧ zS r (32 * t + k) = nI a ∧ zG r k = nI c) ∧ xS z = zSt r t 32 ∧
  ∀ p k, p < xP z → k < 32 → zH r ((5 * t + p) * 32 + k) = (lastW (xW z) k (p + 1)).isSome ∧ ∀ q, lastW (xW z) k (p + 1) = some q → zW r ((5 * t + p) * 32 + k) = xV z q k
def SimT (r : xRS) (t : Nat) (z : xTS) : Prop := xO z = zO r t ∧ (xO z = true → SimO r t z)
def Sim (b : Nat → Nat) (d : xDS) (r : xRS) : Prop := (∀ k, k < 32 → yN d k = zC r k) ∧ (∀ k, k < 32 → yC d k = zG r k) ∧ (∀ k, k < 32 → ∃ c : Nat, c ≤ b k ∧ zG r k = nI c) ∧ (yD d = zD r ∧ yS d = zL r) ∧ ∀ t, t < 8 → SimT r t (yT d t)
theorem zSt_eq {r r2 : xRS} {t : Nat} : ∀ n, n ≤ 32 → (∀ k, k < 32 → zR r2 (32 * t + k) = zR r (32 * t + k) ∧ (zR r (32 * t + k) = true → zS r2 (32 * t + k) = zS r (32 * t + k)) ∧ zG r2 k = zG r k) → zSt r2 t n = zSt r t n
  | 0, _, _ => rfl
  | n + 1, hn, h => by
    obtain ⟨h1, h2, h3⟩ := h n (by omega)
    show (zSt r2 t n || (zR r2 (32 * t + n) && decide (zS r2 (32 * t + n) ≠ zG r2 n))) = (zSt r t n || (zR r (32 * t + n) && decide (zS r (32 * t + n) ≠ zG r n)))
    rw [zSt_eq n (by omega) h, h1, h3]
    cases hb : zR r (32 * t + n)
    · rfl
    · rw [h2 hb]
/-- the reference's places of t are as they were: what ties it to t stays -/
theorem SimO.same {r r2 : xRS} {t : Nat} {z : xTS} (h : SimO r t z) (hP : zP r2 t = zP r t) (hR : ∀ k, k < 32 → zR r2 (32 * t + k) = zR r (32 * t + k)) (hS : ∀ k, k < 32 → zS r2 (32 * t + k) = zS r (32 * t + k)) (hG : ∀ k, k < 32 → zG r2 k = zG r k)
    (hH : ∀ i, 160 * t ≤ i → i < 160 * t + 160 → zH r2 i = zH r i) (hW : ∀ i, 160 * t ≤ i → i < 160 * t + 160 → zW r2 i = zW r i) : SimO r2 t z := by
  obtain ⟨⟨h1, h2, h3⟩, h4, h5, h6, h7⟩ := h
  refine ⟨⟨h1, h2, hP.trans h3⟩, fun k hk => (h4 k hk).trans (hR k hk).symm, fun k hk hr => ?_, ?_, fun p k hp hk => ?_⟩
  · rw [hR k hk] at hr
    rw [hS k hk, hG k hk]
    exact h5 k hk hr
  · rw [h6]
    exact (zSt_eq 32 (by omega) (fun k hk => ⟨hR k hk, fun _ => hS k hk, hG k hk⟩)).symm
  · have hl : 160 * t ≤ (5 * t + p) * 32 + k ∧ (5 * t + p) * 32 + k < 160 * t + 160 := by omega
    rw [hH _ hl.1 hl.2, hW _ hl.1 hl.2]
    exact h7 p k hp hk
theorem tNote_cl {z : xTS} {k : Nat} (h : xO z = false) : tNote z k = z := by
  unfold tNote
  rw [h, if_neg (by simp)]
theorem tNote_op {z : xTS} {k : Nat} (h : xO z = true) : tNote z k = (xO z, xS z || bt (xR z) k, z.2.2) := by
  unfold tNote
  rw [h]
  cases hb : bt (xR z) k
  · rw [if_neg (by simp)]
    obtain ⟨o, s, rest⟩ := z
    cases h
    simp
  · rw [if_pos (by simp)]
    simp
theorem yNote_at {f : Nat → xTS} {k : Nat} : ∀ n t, yNote f k n t = if t < n then tNote (f t) k else f t
  | 0, t => by rw [if_neg (by omega)]; rfl
  | n + 1, t => by
    show va_up (yNote f k n) n (tNote (yNote f k n n) k) t = _
    by_cases h : t = n
    · subst h
      rw [va_up_self, yNote_at t t, if_neg (by omega), if_pos (by omega)]
    · rw [va_up_ne _ _ h, yNote_at n t]
      by_cases h2 : t < n
      · rw [if_pos h2, if_pos (by omega)]
      · rw [if_neg h2, if_neg (by omega)]
/-- the reference behind a change of cell k -/
def zChg (r : xRS) (k : Nat) (x : Int64) : xRS := (zE r, vp_updL (zC r) k x, zW r, upd (zG r) k (zG r k + 1), r.2.2.2.2)
theorem zSt_chg {r : xRS} {t k c : Nat} {x : Int64} (hk : k < 32) (hc : zG r k = nI c) (hcb : c + 1 < 2 ^ 31) (hs : zR r (32 * t + k) = true → ∃ a, a ≤ c ∧ zS r (32 * t + k) = nI a) : ∀ m, m ≤ 32 → zSt (zChg r k x) t m = (zSt r t m || (decide (k < m) && zR r (32 * t + k)))
  | 0, _ => by simp [zSt]
  | m + 1, hm => by
    show (zSt (zChg r k x) t m || (zR r (32 * t + m) && decide (zS r (32 * t + m) ≠ upd (zG r) k (zG r k + 1) m))) = ((zSt r t m || (zR r (32 * t + m) && decide (zS r (32 * t + m) ≠ zG r m))) || (decide (k < m + 1) && zR r (32 * t + k)))
    rw [zSt_chg hk hc hcb hs m (by omega)]
    by_cases h : m = k
    · subst h
      rw [pk_us]
      have e1 : decide (m < m) = false := decide_eq_false (by omega)
      have e2 : decide (m < m + 1) = true := decide_eq_true (by omega)
      rw [e1, e2]
      cases hr : zR r (32 * t + m)
      · simp
      · obtain ⟨a, ha, hsa⟩ := hs hr
        have e3 : decide (zS r (32 * t + m) ≠ zG r m + 1) = true := decide_eq_true (by
          rw [hsa, hc, nI_1]
          intro q
          have := (nI_eq (by omega) (by omega)).mp q
          omega)
        rw [e3]
        simp
    · rw [pk_un h]
      have e1 : decide (k < m + 1) = decide (k < m) := by rw [decide_eq_decide]; omega
      rw [e1]
      cases zSt r t m <;> cases (zR r (32 * t + m) && decide (zS r (32 * t + m) ≠ zG r m)) <;> simp
theorem SimT.note {r : xRS} {t k c : Nat} {x : Int64} {z : xTS} (h : SimT r t z) (hk : k < 32) (hc : zG r k = nI c) (hcb : c + 1 < 2 ^ 31) : SimT (zChg r k x) t (tNote z k) := by
  obtain ⟨h0, h1⟩ := h
  cases ho : xO z
  · rw [tNote_cl ho]
    exact ⟨h0, fun q => by rw [ho] at q; cases q⟩
  · obtain ⟨h2, h3, h4, h5, h6⟩ := h1 ho
    have hs : zR r (32 * t + k) = true → ∃ a, a ≤ c ∧ zS r (32 * t + k) = nI a := fun hr => by
      obtain ⟨a, c2, q1, q0, q2, q3⟩ := h4 k hk hr
      have := (nI_eq (a := c2) (b := c) q0 (by omega)).mp (q3.symm.trans hc)
      exact ⟨a, by omega, q2⟩
    rw [tNote_op ho]
    refine ⟨h0, fun _ => ⟨h2, h3, fun j hj hr => ?_, ?_, h6⟩⟩
    · obtain ⟨a, c2, q1, q0, q2, q3⟩ := h4 j hj hr
      by_cases hjk : j = k
      · subst hjk
        obtain ⟨a2, q4, q5⟩ := hs hr
        refine ⟨a2, c + 1, by omega, hcb, q5, ?_⟩
        show upd (zG r) j (zG r j + 1) j = _
        rw [pk_us, hc, nI_1]
      · refine ⟨a, c2, q1, q0, q2, ?_⟩
        show upd (zG r) k (zG r k + 1) j = _
        rw [pk_un hjk]
        exact q3
    · show (xS z || bt (xR z) k) = zSt (zChg r k x) t 32
      rw [zSt_chg hk hc hcb hs 32 (by omega), h5, h3 k hk]
      have e1 : decide (k < 32) = true := decide_eq_true hk
      rw [e1]
      simp
theorem Sim.wide {b b2 : Nat → Nat} {d : xDS} {r : xRS} (h : Sim b d r) (hb : ∀ k, k < 32 → b k ≤ b2 k) : Sim b2 d r := by
  obtain ⟨h1, h2, h3, h4, h5⟩ := h
  refine ⟨h1, h2, fun k hk => ?_, h4, h5⟩
  obtain ⟨c, q1, q2⟩ := h3 k hk
  exact ⟨c, Nat.le_trans q1 (hb k hk), q2⟩
theorem Sim.change {b : Nat → Nat} {d : xDS} {r : xRS} {k : Nat} {x : Int64} (h : Sim b d r) (hk : k < 32) (hb : b k + 1 < 2 ^ 31) : Sim (va_up b k (b k + 1)) (yChange d k x) (zChg r k x) := by
  obtain ⟨h1, h2, h3, h4, h5⟩ := h
  obtain ⟨c, q1, q2⟩ := h3 k hk
  refine ⟨fun j hj => ?_, fun j hj => ?_, fun j hj => ?_, h4, fun t ht => ?_⟩
  · show vp_updL (yN d) k x j = vp_updL (zC r) k x j
    by_cases e : j = k
    · subst e; rw [pk_uLs, pk_uLs]
    · rw [pk_uLn e, pk_uLn e]; exact h1 j hj
  · show upd (yC d) k (yC d k + 1) j = upd (zG r) k (zG r k + 1) j
    by_cases e : j = k
    · subst e; rw [pk_us, pk_us, h2 j hj]
    · rw [pk_un e, pk_un e]; exact h2 j hj
  · show ∃ c : Nat, c ≤ va_up b k (b k + 1) j ∧ upd (zG r) k (zG r k + 1) j = nI c
    by_cases e : j = k
    · subst e
      exact ⟨c + 1, by rw [va_up_self]; omega, by rw [pk_us, q2, nI_1]⟩
    · rw [va_up_ne _ _ e, pk_un e]; exact h3 j hj
  · show SimT (zChg r k x) t (yNote (yT d) k 8 t)
    rw [yNote_at, if_pos ht]
    exact (h5 t ht).note hk q2 (by omega)
/-- only what ties transaction j changes -/
theorem Sim.at {b : Nat → Nat} {d : xDS} {r r2 : xRS} {j : Nat} {z : xTS} {l : Int32} (h : Sim b d r) (hC : zC r2 = zC r) (hG : zG r2 = zG r) (hD : yD d = zD r2) (hL : l = zL r2) (hj : SimT r2 j z)
    (hO : ∀ t, t < 8 → t ≠ j → zO r2 t = zO r t ∧ zP r2 t = zP r t ∧ (∀ k, k < 32 → zR r2 (32 * t + k) = zR r (32 * t + k)) ∧ (∀ k, k < 32 → zS r2 (32 * t + k) = zS r (32 * t + k)) ∧ (∀ i, 160 * t ≤ i → i < 160 * t + 160 → zH r2 i = zH r i) ∧ (∀ i, 160 * t ≤ i → i < 160 * t + 160 → zW r2 i = zW r i)) :
    Sim b (yN d, yC d, va_up (yT d) j z, yD d, l) r2 := by
  obtain ⟨h1, h2, h3, h4, h5⟩ := h
  refine ⟨fun k hk => ?_, fun k hk => ?_, fun k hk => ?_, ⟨hD, hL⟩, fun t ht => ?_⟩
  · rw [hC]; exact h1 k hk
  · rw [hG]; exact h2 k hk
  · rw [hG]; exact h3 k hk
  · show SimT r2 t (va_up (yT d) j z t)
    by_cases e : t = j
    · subst e; rw [va_up_self]; exact hj
    · rw [va_up_ne _ _ e]
      obtain ⟨g1, g2, g3, g4, g5, g6⟩ := hO t ht e
      obtain ⟨f0, f1⟩ := h5 t ht
      exact ⟨f0.trans g1.symm, fun ho => (f1 ho).same g2 g3 g4 (fun k _ => by rw [hG]) g5 g6⟩
/-- the code that a wrapper of the law gives to what was thrown -/
def cdOf (L : List String) (o : Option String) : Int32 := match o with
  | none => 0
  | some X => nI (L.idxOf X + 1)
theorem cd0 (L : List String) : (0 : Int32) = cdOf L none := rfl
theorem cdA1 : (1 : Int32) = cdOf [qA, qS] (some qA) := by decide +kernel
theorem cdA2 : (2 : Int32) = cdOf [qA, qS] (some qS) := by decide +kernel
theorem cdB1 : (1 : Int32) = cdOf [qA, qB, qS, qU] (some qA) := by decide +kernel
theorem cdB2 : (2 : Int32) = cdOf [qA, qB, qS, qU] (some qB) := by decide +kernel
theorem cdB3 : (3 : Int32) = cdOf [qA, qB, qS, qU] (some qS) := by decide +kernel
theorem cdB4 : (4 : Int32) = cdOf [qA, qB, qS, qU] (some qU) := by decide +kernel
theorem cdC1 : (1 : Int32) = cdOf [qA, qB, qS] (some qA) := by decide +kernel
theorem cdC2 : (2 : Int32) = cdOf [qA, qB, qS] (some qB) := by decide +kernel
theorem cdC3 : (3 : Int32) = cdOf [qA, qB, qS] (some qS) := by decide +kernel
theorem cdD1 : (1 : Int32) = cdOf [qA, qS, qU] (some qA) := by decide +kernel
theorem cdD2 : (2 : Int32) = cdOf [qA, qS, qU] (some qS) := by decide +kernel
theorem cdD3 : (3 : Int32) = cdOf [qA, qS, qU] (some qU) := by decide +kernel
theorem cdE1 : (1 : Int32) = cdOf [qB] (some qB) := by decide +kernel
theorem cdF1 : (1 : Int32) = cdOf [qA] (some qA) := by decide +kernel
theorem lastW_s {w : Nat → Int32} {k n : Nat} : lastW w k (n + 1) = if bt (w n) k = true then some n else lastW w k n := rfl
theorem lastW_eq {w w2 : Nat → Int32} {k : Nat} : ∀ n, (∀ p, p < n → bt (w2 p) k = bt (w p) k) → lastW w2 k n = lastW w k n
  | 0, _ => rfl
  | n + 1, h => by
    rw [lastW_s, lastW_s, h n (by omega), lastW_eq n (fun p hp => h p (by omega))]
theorem zSt_f {r : xRS} {t : Nat} : ∀ n, (∀ k, k < n → zR r (32 * t + k) = false) → zSt r t n = false
  | 0, _ => rfl
  | n + 1, h => by
    show (zSt r t n || (zR r (32 * t + n) && decide (zS r (32 * t + n) ≠ zG r n))) = false
    rw [zSt_f n (fun k hk => h k (by omega)), h n (by omega)]
    rfl
theorem sim_begin {b : Nat → Nat} {d : xDS} {r : xRS} (h : Sim b d r) (t : Int32) : zE (zBegin r t) = cdOf [qA, qS] (yBegin d t).1 ∧ Sim b (yBegin d t).2 (zBegin r t) := by
  unfold zBegin yBegin
  cases hx : ix 8 t with
  | none => exact ⟨(by first | exact cd0 _ | exact cdA1 | exact cdA2 | exact cdB1 | exact cdB2 | exact cdB3 | exact cdB4 | exact cdC1 | exact cdC2 | exact cdC3 | exact cdD1 | exact cdD2 | exact cdD3 | exact cdE1 | exact cdF1), h⟩
  | some j =>
    obtain ⟨hj, -⟩ := ix_some (by decide) hx
    have hT := h.2.2.2.2 j hj
    dsimp only
    rw [← hT.1]
    by_cases ho : xO (yT d j) = true
    · rw [if_pos ho, if_pos ho]
      exact ⟨(by first | exact cd0 _ | exact cdA1 | exact cdA2 | exact cdB1 | exact cdB2 | exact cdB3 | exact cdB4 | exact cdC1 | exact cdC2 | exact cdC3 | exact cdD1 | exact cdD2 | exact cdD3 | exact cdE1 | exact cdF1), h⟩
    · rw [if_neg ho, if_neg ho]
      refine ⟨(by first | exact cd0 _ | exact cdA1 | exact cdA2 | exact cdB1 | exact cdB2 | exact cdB3 | exact cdB4 | exact cdC1 | exact cdC2 | exact cdC3 | exact cdD1 | exact cdD2 | exact cdD3 | exact cdE1 | exact cdF1), ?_⟩
      refine Sim.at (l := yS d) h rfl rfl h.2.2.2.1.1 h.2.2.2.1.2 ?_ ?_
      · refine ⟨by show true = va_up (zO r) j true j; rw [va_up_self], fun _ => ⟨⟨Nat.le_refl _, by show 1 ≤ 5; omega, by show va_up (zP r) j 1 j = 1; rw [va_up_self]⟩, fun k hk => ?_, fun k hk hr => ?_, ?_, fun p k hp hk => ?_⟩⟩
        · show bt 0 k = zClr (zR r) (32 * j) 32 (32 * j + k)
          rw [b_0, zClr_at, if_pos (by omega)]
        · have hr2 : zClr (zR r) (32 * j) 32 (32 * j + k) = true := hr
          rw [zClr_at, if_pos (by omega)] at hr2
          cases hr2
        · show false = zSt _ j 32
          rw [zSt_f]
          intro k hk
          show zClr (zR r) (32 * j) 32 (32 * j + k) = false
          rw [zClr_at, if_pos (by omega)]
        · have hp0 : p = 0 := by
            have : p < 1 := hp
            omega
          subst hp0
          have e1 : lastW (upd (xW (yT d j)) 0 0) k (0 + 1) = none := by
            rw [lastW_s, pk_us, b_0]; rfl
          show zClr (zH r) (160 * j) 32 ((5 * j + 0) * 32 + k) = (lastW (upd (xW (yT d j)) 0 0) k (0 + 1)).isSome ∧ ∀ q, lastW (upd (xW (yT d j)) 0 0) k (0 + 1) = some q → _
          rw [e1, zClr_at, if_pos (by omega)]
          exact ⟨rfl, fun q hq => by cases hq⟩
      · intro t2 ht2 hne
        refine ⟨va_up_ne _ _ hne, va_up_ne _ _ hne, fun k hk => ?_, fun k _ => rfl, fun i h1 h2 => ?_, fun i _ _ => rfl⟩
        · show zClr (zR r) (32 * j) 32 (32 * t2 + k) = _
          rw [zClr_at, if_neg (by omega)]
        · show zClr (zH r) (160 * j) 32 i = _
          rw [zClr_at, if_neg (by omega)]
theorem simT_cl {r : xRS} {j : Nat} {z : xTS} (h : zO r j = false) : SimT r j (tClose z) := ⟨h.symm, fun q => by cases q⟩
theorem sim_leave {b : Nat → Nat} {d : xDS} {r : xRS} (h : Sim b d r) (t : Int32) : zE (zLeave r t) = cdOf [qA, qS] (yLeave d t).1 ∧ Sim b (yLeave d t).2 (zLeave r t) := by
  unfold zLeave yLeave
  cases hx : ix 8 t with
  | none => exact ⟨(by first | exact cd0 _ | exact cdA1 | exact cdA2 | exact cdB1 | exact cdB2 | exact cdB3 | exact cdB4 | exact cdC1 | exact cdC2 | exact cdC3 | exact cdD1 | exact cdD2 | exact cdD3 | exact cdE1 | exact cdF1), h⟩
  | some j =>
    obtain ⟨hj, -⟩ := ix_some (by decide) hx
    have hT := h.2.2.2.2 j hj
    dsimp only
    rw [← hT.1]
    by_cases ho : xO (yT d j) = false
    · rw [if_pos ho, if_pos ho]
      exact ⟨(by first | exact cd0 _ | exact cdA1 | exact cdA2 | exact cdB1 | exact cdB2 | exact cdB3 | exact cdB4 | exact cdC1 | exact cdC2 | exact cdC3 | exact cdD1 | exact cdD2 | exact cdD3 | exact cdE1 | exact cdF1), h⟩
    · rw [if_neg ho, if_neg ho]
      refine ⟨(by first | exact cd0 _ | exact cdA1 | exact cdA2 | exact cdB1 | exact cdB2 | exact cdB3 | exact cdB4 | exact cdC1 | exact cdC2 | exact cdC3 | exact cdD1 | exact cdD2 | exact cdD3 | exact cdE1 | exact cdF1), ?_⟩
      refine Sim.at (l := yS d) h rfl rfl h.2.2.2.1.1 h.2.2.2.1.2 (simT_cl (by show va_up (zO r) j false j = false; rw [va_up_self])) ?_
      intro t2 ht2 hne
      exact ⟨va_up_ne _ _ hne, rfl, fun k _ => rfl, fun k _ => rfl, fun i _ _ => rfl, fun i _ _ => rfl⟩
theorem sim_put {b : Nat → Nat} {d : xDS} {r : xRS} (h : Sim b d r) (hb : ∀ k, k < 32 → b k + 1 < 2 ^ 31) (k : Int32) (x : Int64) : zE (zPut r k x) = cdOf [qB] (yPut d k x).1 ∧ Sim (fun i => b i + 1) (yPut d k x).2 (zPut r k x) := by
  unfold zPut yPut
  cases hx : ix 32 k with
  | none => exact ⟨(by first | exact cd0 _ | exact cdA1 | exact cdA2 | exact cdB1 | exact cdB2 | exact cdB3 | exact cdB4 | exact cdC1 | exact cdC2 | exact cdC3 | exact cdD1 | exact cdD2 | exact cdD3 | exact cdE1 | exact cdF1), Sim.wide h (fun i _ => Nat.le_succ _)⟩
  | some i =>
    obtain ⟨hi, -⟩ := ix_some (by decide) hx
    refine ⟨(by first | exact cd0 _ | exact cdA1 | exact cdA2 | exact cdB1 | exact cdB2 | exact cdB3 | exact cdB4 | exact cdC1 | exact cdC2 | exact cdC3 | exact cdD1 | exact cdD2 | exact cdD3 | exact cdE1 | exact cdF1), ?_⟩
    have h1 := Sim.change (x := x) h hi (hb i hi)
    have h2 : Sim (va_up b i (b i + 1)) (yChange d i x) (0, vp_updL (zC r) i x, zW r, upd (zG r) i (zG r i + 1), r.2.2.2.2) := h1
    refine Sim.wide h2 (fun j _ => ?_)
    by_cases e : j = i
    · subst e; rw [va_up_self]; exact Nat.le_refl _
    · rw [va_up_ne _ _ e]; exact Nat.le_succ _
theorem sim_cell {b : Nat → Nat} {d : xDS} {r : xRS} (h : Sim b d r) (k : Int32) : zE (zCell r k).2 = cdOf [qB] (yCell d k).1 ∧ Sim b d (zCell r k).2 ∧ ((yCell d k).1 = none → (yCell d k).2 = (zCell r k).1) := by
  unfold zCell yCell
  cases hx : ix 32 k with
  | none => exact ⟨(by first | exact cd0 _ | exact cdA1 | exact cdA2 | exact cdB1 | exact cdB2 | exact cdB3 | exact cdB4 | exact cdC1 | exact cdC2 | exact cdC3 | exact cdD1 | exact cdD2 | exact cdD3 | exact cdE1 | exact cdF1), h, fun q => by cases q⟩
  | some i =>
    obtain ⟨hi, -⟩ := ix_some (by decide) hx
    exact ⟨(by first | exact cd0 _ | exact cdA1 | exact cdA2 | exact cdB1 | exact cdB2 | exact cdB3 | exact cdB4 | exact cdC1 | exact cdC2 | exact cdC3 | exact cdD1 | exact cdD2 | exact cdD3 | exact cdE1 | exact cdF1), h, fun _ => h.1 i hi⟩
theorem sim_chd {b : Nat → Nat} {d : xDS} {r : xRS} (h : Sim b d r) (k : Int32) : zE (zChd r k).2 = cdOf [qB] (yChd d k).1 ∧ Sim b d (zChd r k).2 ∧ ((yChd d k).1 = none → (yChd d k).2 = (zChd r k).1) := by
  unfold zChd yChd
  cases hx : ix 32 k with
  | none => exact ⟨(by first | exact cd0 _ | exact cdA1 | exact cdA2 | exact cdB1 | exact cdB2 | exact cdB3 | exact cdB4 | exact cdC1 | exact cdC2 | exact cdC3 | exact cdD1 | exact cdD2 | exact cdD3 | exact cdE1 | exact cdF1), h, fun q => by cases q⟩
  | some i =>
    obtain ⟨hi, -⟩ := ix_some (by decide) hx
    exact ⟨(by first | exact cd0 _ | exact cdA1 | exact cdA2 | exact cdB1 | exact cdB2 | exact cdB3 | exact cdB4 | exact cdC1 | exact cdC2 | exact cdC3 | exact cdD1 | exact cdD2 | exact cdD3 | exact cdE1 | exact cdF1), h, fun _ => h.2.1 i hi⟩
theorem opn_eq {d : xDS} {r : xRS} : ∀ n, (∀ t, t < n → xO (yT d t) = zO r t) → yOpen (yT d) n = zOpn r n
  | 0, _ => rfl
  | n + 1, h => by
    show yOpen (yT d) n + (if xO (yT d n) = true then 1 else 0) = zOpn r n + (if zO r n = true then 1 else 0)
    rw [opn_eq n (fun t ht => h t (by omega)), h n (by omega)]
theorem sim_all {b : Nat → Nat} {d : xDS} {r : xRS} (h : Sim b d r) (w : Int32) : zE (zAll r w).2 = cdOf [qA] (yAll d w).1 ∧ Sim b d (zAll r w).2 ∧ ((yAll d w).1 = none → (yAll d w).2 = (zAll r w).1) := by
  unfold zAll yAll
  cases hx : ix 3 w with
  | none => exact ⟨(by first | exact cd0 _ | exact cdA1 | exact cdA2 | exact cdB1 | exact cdB2 | exact cdB3 | exact cdB4 | exact cdC1 | exact cdC2 | exact cdC3 | exact cdD1 | exact cdD2 | exact cdD3 | exact cdE1 | exact cdF1), h, fun q => by cases q⟩
  | some c =>
    refine ⟨(by first | exact cd0 _ | exact cdA1 | exact cdA2 | exact cdB1 | exact cdB2 | exact cdB3 | exact cdB4 | exact cdC1 | exact cdC2 | exact cdC3 | exact cdD1 | exact cdD2 | exact cdD3 | exact cdE1 | exact cdF1), h, fun _ => ?_⟩
    dsimp only
    rw [opn_eq 8 (fun t ht => (h.2.2.2.2 t ht).1), h.2.2.2.1.1, h.2.2.2.1.2]
theorem tAll_bt {w : Nat → Int32} {k : Nat} : ∀ n, bt (tAll w n) k = (lastW w k n).isSome
  | 0 => b_0 k
  | n + 1 => by
    show bt (tAll w n ||| w n) k = _
    rw [b_or, tAll_bt n, lastW_s]
    cases hb : bt (w n) k
    · rw [if_neg (by decide)]; simp
    · rw [if_pos rfl]; simp
theorem cntR_eq {r : xRS} {t : Nat} {x : Int32} : ∀ n, (∀ k, k < n → bt x k = zR r (32 * t + k)) → bCnt x n = zCntR r t n
  | 0, _ => rfl
  | n + 1, h => by
    show bCnt x n + (if bt x n = true then 1 else 0) = zCntR r t n + (if zR r (32 * t + n) = true then 1 else 0)
    rw [cntR_eq n (fun k hk => h k (by omega)), h n (by omega)]
theorem cntH_eq {r : xRS} {t : Nat} {x : Int32} : ∀ n, (∀ k, k < n → bt x k = zH r (zAt r t k)) → bCnt x n = zCntH r t n
  | 0, _ => rfl
  | n + 1, h => by
    show bCnt x n + (if bt x n = true then 1 else 0) = zCntH r t n + (if zH r (zAt r t n) = true then 1 else 0)
    rw [cntH_eq n (fun k hk => h k (by omega)), h n (by omega)]
/-- what the last part of an open transaction shows -/
theorem SimO.lst {r : xRS} {t k : Nat} {z : xTS} (h : SimO r t z) (hk : k < 32) : zH r (zAt r t k) = (lastW (xW z) k (xP z)).isSome ∧ ∀ q, lastW (xW z) k (xP z) = some q → zW r (zAt r t k) = xV z q k := by
  obtain ⟨⟨h1, h2, h3⟩, -, -, -, h6⟩ := h
  have h7 := h6 (xP z - 1) k (by omega) hk
  rw [Nat.sub_add_cancel h1] at h7
  have e1 : zAt r t k = (5 * t + (xP z - 1)) * 32 + k := by
    unfold zAt
    rw [h3]
    omega
  rw [e1]
  exact h7
theorem sim_count {b : Nat → Nat} {d : xDS} {r : xRS} (h : Sim b d r) (t w : Int32) : zE (zCount r t w).2 = cdOf [qA, qS] (yCount d t w).1 ∧ Sim b d (zCount r t w).2 ∧ ((yCount d t w).1 = none → (yCount d t w).2 = (zCount r t w).1) := by
  unfold zCount yCount
  cases hw : ix 4 w with
  | none =>
    cases hx : ix 8 t with
    | none => exact ⟨(by first | exact cd0 _ | exact cdA1 | exact cdA2 | exact cdB1 | exact cdB2 | exact cdB3 | exact cdB4 | exact cdC1 | exact cdC2 | exact cdC3 | exact cdD1 | exact cdD2 | exact cdD3 | exact cdE1 | exact cdF1), h, fun q => by cases q⟩
    | some j => exact ⟨(by first | exact cd0 _ | exact cdA1 | exact cdA2 | exact cdB1 | exact cdB2 | exact cdB3 | exact cdB4 | exact cdC1 | exact cdC2 | exact cdC3 | exact cdD1 | exact cdD2 | exact cdD3 | exact cdE1 | exact cdF1), h, fun q => by cases q⟩
  | some c =>
    cases hx : ix 8 t with
    | none => exact ⟨(by first | exact cd0 _ | exact cdA1 | exact cdA2 | exact cdB1 | exact cdB2 | exact cdB3 | exact cdB4 | exact cdC1 | exact cdC2 | exact cdC3 | exact cdD1 | exact cdD2 | exact cdD3 | exact cdE1 | exact cdF1), h, fun q => by cases q⟩
    | some j =>
      obtain ⟨hj, -⟩ := ix_some (by decide) hx
      have hT := h.2.2.2.2 j hj
      dsimp only
      rw [← hT.1]
      by_cases ho : xO (yT d j) = false
      · rw [if_pos ho, if_pos ho]
        exact ⟨(by first | exact cd0 _ | exact cdA1 | exact cdA2 | exact cdB1 | exact cdB2 | exact cdB3 | exact cdB4 | exact cdC1 | exact cdC2 | exact cdC3 | exact cdD1 | exact cdD2 | exact cdD3 | exact cdE1 | exact cdF1), h, fun q => by cases q⟩
      · rw [if_neg ho, if_neg ho]
        refine ⟨(by first | exact cd0 _ | exact cdA1 | exact cdA2 | exact cdB1 | exact cdB2 | exact cdB3 | exact cdB4 | exact cdC1 | exact cdC2 | exact cdC3 | exact cdD1 | exact cdD2 | exact cdD3 | exact cdE1 | exact cdF1), h, fun _ => ?_⟩
        have hO := hT.2 (by cases hb : xO (yT d j); exact absurd hb ho; rfl)
        dsimp only
        rw [cntR_eq 32 hO.2.1, cntH_eq (t := j) (r := r) 32 (fun k hk => by rw [tAll_bt]; exact (hO.lst hk).1.symm), ← hO.1.2.2, ← hO.2.2.2.1]
theorem put_w {z : xTS} {P i : Nat} {x : Int64} {q k : Nat} (hi : i < 32) (hk : k < 32) : bt (xW (tPut z P i x) q) k = (bt (xW z q) k || (decide (q = P) && decide (k = i))) := by
  show bt (upd (xW z) P (xW z P ||| sB i) q) k = _
  by_cases e : q = P
  · subst e; rw [pk_us, or_bt hi hk]; simp
  · rw [pk_un e]; simp [e]
theorem put_last {z : xTS} {P i : Nat} {x : Int64} {k : Nat} (hi : i < 32) (hk : k < 32) (n : Nat) (h : k ≠ i ∨ n ≤ P) : lastW (xW (tPut z P i x)) k n = lastW (xW z) k n := by
  refine lastW_eq n (fun p hp => ?_)
  rw [put_w hi hk]
  have : (decide (p = P) && decide (k = i)) = false := by
    rcases h with h | h
    · simp [h]
    · simp [show p ≠ P by omega]
  rw [this, Bool.or_false]
theorem sim_write {b : Nat → Nat} {d : xDS} {r : xRS} (h : Sim b d r) (t k : Int32) (x : Int64) : zE (zWrite r t k x) = cdOf [qA, qB, qS] (yWrite d t k x).1 ∧ Sim b (yWrite d t k x).2 (zWrite r t k x) := by
  unfold zWrite yWrite
  cases hx : ix 8 t with
  | none => exact ⟨(by first | exact cd0 _ | exact cdA1 | exact cdA2 | exact cdB1 | exact cdB2 | exact cdB3 | exact cdB4 | exact cdC1 | exact cdC2 | exact cdC3 | exact cdD1 | exact cdD2 | exact cdD3 | exact cdE1 | exact cdF1), h⟩
  | some j =>
    obtain ⟨hj, -⟩ := ix_some (by decide) hx
    cases hy : ix 32 k with
    | none => exact ⟨(by first | exact cd0 _ | exact cdA1 | exact cdA2 | exact cdB1 | exact cdB2 | exact cdB3 | exact cdB4 | exact cdC1 | exact cdC2 | exact cdC3 | exact cdD1 | exact cdD2 | exact cdD3 | exact cdE1 | exact cdF1), h⟩
    | some i =>
      obtain ⟨hi, -⟩ := ix_some (by decide) hy
      have hT := h.2.2.2.2 j hj
      dsimp only
      rw [← hT.1]
      by_cases ho : xO (yT d j) = false
      · rw [if_pos ho, if_pos ho]
        exact ⟨(by first | exact cd0 _ | exact cdA1 | exact cdA2 | exact cdB1 | exact cdB2 | exact cdB3 | exact cdB4 | exact cdC1 | exact cdC2 | exact cdC3 | exact cdD1 | exact cdD2 | exact cdD3 | exact cdE1 | exact cdF1), h⟩
      · rw [if_neg ho, if_neg ho]
        have ho2 : xO (yT d j) = true := by cases hb : xO (yT d j); exact absurd hb ho; rfl
        obtain ⟨⟨h1, h2, h3⟩, h4, h5, h6, h7⟩ := hT.2 ho2
        generalize hz : yT d j = z at *
        have eA : zAt r j i = (5 * j + (xP z - 1)) * 32 + i := by unfold zAt; rw [h3]; omega
        refine ⟨(by first | exact cd0 _ | exact cdA1 | exact cdA2 | exact cdB1 | exact cdB2 | exact cdB3 | exact cdB4 | exact cdC1 | exact cdC2 | exact cdC3 | exact cdD1 | exact cdD2 | exact cdD3 | exact cdE1 | exact cdF1), ?_⟩
        refine Sim.at (l := yS d) h rfl rfl h.2.2.2.1.1 h.2.2.2.1.2 ?_ ?_
        · refine ⟨hT.1, fun _ => ⟨⟨h1, h2, h3⟩, h4, h5, ?_, fun p q hp hq => ?_⟩⟩
          · exact h6.trans (zSt_eq 32 (by omega) (fun k hk => ⟨rfl, fun _ => rfl, rfl⟩)).symm
          · have hp2 : p < xP z := hp
            obtain ⟨g1, g2⟩ := h7 p q hp2 hq
            show va_up (zH r) (zAt r j i) true ((5 * j + p) * 32 + q) = (lastW (xW (tPut z (xP z - 1) i x)) q (p + 1)).isSome ∧ ∀ q2, lastW (xW (tPut z (xP z - 1) i x)) q (p + 1) = some q2 → vp_updL (zW r) (zAt r j i) x ((5 * j + p) * 32 + q) = va_up (xV z) (xP z - 1) (vp_updL (xV z (xP z - 1)) i x) q2 q
            by_cases e : p = xP z - 1 ∧ q = i
            · obtain ⟨e1, e2⟩ := e
              subst e1; subst e2
              have eb : bt (xW (tPut z (xP z - 1) q x) (xP z - 1)) q = true := by rw [put_w hi hi]; simp
              rw [eA, va_up_self, pk_uLs, lastW_s, eb, if_pos rfl]
              refine ⟨rfl, fun q2 hq2 => ?_⟩
              cases hq2
              rw [va_up_self, pk_uLs]
            · have ne : (5 * j + p) * 32 + q ≠ zAt r j i := by rw [eA]; omega
              have el : lastW (xW (tPut z (xP z - 1) i x)) q (p + 1) = lastW (xW z) q (p + 1) := put_last hi hq (p + 1) (by omega)
              rw [va_up_ne _ _ ne, pk_uLn ne, el]
              refine ⟨g1, fun q2 hq2 => ?_⟩
              rw [g2 q2 hq2]
              by_cases e3 : q2 = xP z - 1
              · subst e3
                rw [va_up_self]
                have hl := lastW_lt hq2
                rw [pk_uLn (by omega)]
              · rw [va_up_ne _ _ e3]
        · intro t2 ht2 hne
          refine ⟨rfl, rfl, fun k _ => rfl, fun k _ => rfl, fun q q1 q2 => ?_, fun q q1 q2 => ?_⟩
          · exact va_up_ne _ _ (by rw [eA]; omega)
          · exact pk_uLn (by rw [eA]; omega)
theorem sim_save {b : Nat → Nat} {d : xDS} {r : xRS} (h : Sim b d r) (t : Int32) : zE (zSave r t).2 = cdOf [qA, qS, qU] (ySave d t).1.1 ∧ Sim b (ySave d t).2 (zSave r t).2 ∧ ((ySave d t).1.1 = none → (ySave d t).1.2 = (zSave r t).1) := by
  unfold zSave ySave
  cases hx : ix 8 t with
  | none => exact ⟨(by first | exact cd0 _ | exact cdA1 | exact cdA2 | exact cdB1 | exact cdB2 | exact cdB3 | exact cdB4 | exact cdC1 | exact cdC2 | exact cdC3 | exact cdD1 | exact cdD2 | exact cdD3 | exact cdE1 | exact cdF1), h, fun q => by cases q⟩
  | some j =>
    obtain ⟨hj, -⟩ := ix_some (by decide) hx
    have hT := h.2.2.2.2 j hj
    dsimp only
    rw [← hT.1]
    by_cases ho : xO (yT d j) = false
    · rw [if_pos ho, if_pos ho]
      exact ⟨(by first | exact cd0 _ | exact cdA1 | exact cdA2 | exact cdB1 | exact cdB2 | exact cdB3 | exact cdB4 | exact cdC1 | exact cdC2 | exact cdC3 | exact cdD1 | exact cdD2 | exact cdD3 | exact cdE1 | exact cdF1), h, fun q => by cases q⟩
    · rw [if_neg ho, if_neg ho]
      have ho2 : xO (yT d j) = true := by cases hb : xO (yT d j); exact absurd hb ho; rfl
      have hO := hT.2 ho2
      obtain ⟨⟨h1, h2, h3⟩, h4, h5, h6, h7⟩ := hO
      generalize hz : yT d j = z at *
      rw [h3]
      by_cases h8 : 5 ≤ xP z
      · rw [if_pos h8, if_pos (by omega)]
        exact ⟨(by first | exact cd0 _ | exact cdA1 | exact cdA2 | exact cdB1 | exact cdB2 | exact cdB3 | exact cdB4 | exact cdC1 | exact cdC2 | exact cdC3 | exact cdD1 | exact cdD2 | exact cdD3 | exact cdE1 | exact cdF1), h, fun q => by cases q⟩
      · rw [if_neg h8, if_neg (by omega)]
        have eA : zAt r j 0 = (5 * j + (xP z - 1)) * 32 := by unfold zAt; rw [h3]; omega
        refine ⟨(by first | exact cd0 _ | exact cdA1 | exact cdA2 | exact cdB1 | exact cdB2 | exact cdB3 | exact cdB4 | exact cdC1 | exact cdC2 | exact cdC3 | exact cdD1 | exact cdD2 | exact cdD3 | exact cdE1 | exact cdF1), ?_, fun _ => rfl⟩
        refine Sim.at (l := yS d) h rfl rfl h.2.2.2.1.1 h.2.2.2.1.2 ?_ ?_
        · refine ⟨hT.1, fun _ => ⟨⟨by show 1 ≤ xP z + 1; omega, by show xP z + 1 ≤ 5; omega, by show va_up (zP r) j (xP z + 1) j = xP z + 1; rw [va_up_self]⟩, h4, h5, ?_, fun p k hp hk => ?_⟩⟩
          · exact h6.trans (zSt_eq 32 (by omega) (fun k hk => ⟨rfl, fun _ => rfl, rfl⟩)).symm
          · have hp2 : p < xP z + 1 := hp
            show zCpB (zH r) (zAt r j 0) (zAt r j 0 + 32) 32 ((5 * j + p) * 32 + k) = (lastW (upd (xW z) (xP z) 0) k (p + 1)).isSome ∧ ∀ q, lastW (upd (xW z) (xP z) 0) k (p + 1) = some q → zCpL (zW r) (zAt r j 0) (zAt r j 0 + 32) 32 ((5 * j + p) * 32 + k) = xV z q k
            have el : ∀ n, n ≤ xP z → lastW (upd (xW z) (xP z) 0) k n = lastW (xW z) k n := fun n hn => lastW_eq n (fun q hq => by rw [pk_un (by omega)])
            rw [zCpB_at 32 _ (by omega), zCpL_at 32 _ (by omega)]
            by_cases e : p = xP z
            · subst e
              rw [if_pos (by rw [eA]; omega), if_pos (by rw [eA]; omega), lastW_s, pk_us, b_0, if_neg (by decide), el _ (Nat.le_refl _)]
              have h9 := h7 (xP z - 1) k (by omega) hk
              rw [Nat.sub_add_cancel h1] at h9
              have e9 : zAt r j 0 + ((5 * j + xP z) * 32 + k - (zAt r j 0 + 32)) = (5 * j + (xP z - 1)) * 32 + k := by rw [eA]; omega
              rw [e9]
              exact h9
            · rw [if_neg (by rw [eA]; omega), if_neg (by rw [eA]; omega), el _ (by omega)]
              exact h7 p k (by omega) hk
        · intro t2 ht2 hne
          refine ⟨rfl, va_up_ne _ _ hne, fun k _ => rfl, fun k _ => rfl, fun q q1 q2 => ?_, fun q q1 q2 => ?_⟩
          · show zCpB (zH r) (zAt r j 0) (zAt r j 0 + 32) 32 q = _
            rw [zCpB_at 32 _ (by omega), if_neg (by rw [eA]; omega)]
          · show zCpL (zW r) (zAt r j 0) (zAt r j 0 + 32) 32 q = _
            rw [zCpL_at 32 _ (by omega), if_neg (by rw [eA]; omega)]
theorem sim_back {b : Nat → Nat} {d : xDS} {r : xRS} (h : Sim b d r) (t : Int32) : zE (zBack r t) = cdOf [qA, qS, qU] (yBack d t).1 ∧ Sim b (yBack d t).2 (zBack r t) := by
  unfold zBack yBack
  cases hx : ix 8 t with
  | none => exact ⟨(by first | exact cd0 _ | exact cdA1 | exact cdA2 | exact cdB1 | exact cdB2 | exact cdB3 | exact cdB4 | exact cdC1 | exact cdC2 | exact cdC3 | exact cdD1 | exact cdD2 | exact cdD3 | exact cdE1 | exact cdF1), h⟩
  | some j =>
    obtain ⟨hj, -⟩ := ix_some (by decide) hx
    have hT := h.2.2.2.2 j hj
    dsimp only
    rw [← hT.1]
    by_cases ho : xO (yT d j) = false
    · rw [if_pos ho, if_pos ho]
      exact ⟨(by first | exact cd0 _ | exact cdA1 | exact cdA2 | exact cdB1 | exact cdB2 | exact cdB3 | exact cdB4 | exact cdC1 | exact cdC2 | exact cdC3 | exact cdD1 | exact cdD2 | exact cdD3 | exact cdE1 | exact cdF1), h⟩
    · rw [if_neg ho, if_neg ho]
      have ho2 : xO (yT d j) = true := by cases hb : xO (yT d j); exact absurd hb ho; rfl
      obtain ⟨⟨h1, h2, h3⟩, h4, h5, h6, h7⟩ := hT.2 ho2
      generalize hz : yT d j = z at *
      rw [h3]
      by_cases h8 : xP z ≤ 1
      · rw [if_pos h8, if_pos (by omega)]
        exact ⟨(by first | exact cd0 _ | exact cdA1 | exact cdA2 | exact cdB1 | exact cdB2 | exact cdB3 | exact cdB4 | exact cdC1 | exact cdC2 | exact cdC3 | exact cdD1 | exact cdD2 | exact cdD3 | exact cdE1 | exact cdF1), h⟩
      · rw [if_neg h8, if_neg (by omega)]
        refine ⟨(by first | exact cd0 _ | exact cdA1 | exact cdA2 | exact cdB1 | exact cdB2 | exact cdB3 | exact cdB4 | exact cdC1 | exact cdC2 | exact cdC3 | exact cdD1 | exact cdD2 | exact cdD3 | exact cdE1 | exact cdF1), ?_⟩
        refine Sim.at (l := yS d) h rfl rfl h.2.2.2.1.1 h.2.2.2.1.2 ?_ ?_
        · refine ⟨hT.1, fun _ => ⟨⟨by show 1 ≤ xP z - 1; omega, by show xP z - 1 ≤ 5; omega, by show va_up (zP r) j (xP z - 1) j = xP z - 1; rw [va_up_self]⟩, h4, h5, ?_, fun p k hp hk => ?_⟩⟩
          · exact h6.trans (zSt_eq 32 (by omega) (fun k hk => ⟨rfl, fun _ => rfl, rfl⟩)).symm
          · exact h7 p k (Nat.lt_of_lt_of_le hp (Nat.sub_le _ _)) hk
        · intro t2 ht2 hne
          exact ⟨rfl, va_up_ne _ _ hne, fun k _ => rfl, fun k _ => rfl, fun i _ _ => rfl, fun i _ _ => rfl⟩
theorem mrg_fix {z : xTS} {p : Nat} : ∀ n, xO (tMrg z p n) = xO z ∧ xS (tMrg z p n) = xS z ∧ xR (tMrg z p n) = xR z ∧ xP (tMrg z p n) = xP z
  | 0 => ⟨rfl, rfl, rfl, rfl⟩
  | n + 1 => by
    obtain ⟨h1, h2, h3, h4⟩ := mrg_fix (z := z) (p := p) n
    unfold tMrg
    by_cases hb : bt (xW (tMrg z p n) (p + 1)) n = true
    · rw [if_pos hb]; exact ⟨h1, h2, h3, h4⟩
    · rw [if_neg hb]; exact ⟨h1, h2, h3, h4⟩
theorem mrg_at {z : xTS} {p : Nat} : ∀ n, n ≤ 32 → (∀ q k, k < 32 → bt (xW (tMrg z p n) q) k = (bt (xW z q) k || (decide (q = p) && (decide (k < n) && bt (xW z (p + 1)) k)))) ∧ ∀ q k, xV (tMrg z p n) q k = if q = p ∧ k < n ∧ bt (xW z (p + 1)) k = true then xV z (p + 1) k else xV z q k
  | 0, _ => ⟨fun q k _ => by simp [tMrg], fun q k => by rw [if_neg (by omega)]; rfl⟩
  | n + 1, hn => by
    obtain ⟨hw, hv⟩ := mrg_at (z := z) (p := p) n (by omega)
    have hl : bt (xW (tMrg z p n) (p + 1)) n = bt (xW z (p + 1)) n := by rw [hw (p + 1) n (by omega)]; simp
    have hv1 : xV (tMrg z p n) (p + 1) n = xV z (p + 1) n := by rw [hv, if_neg (by omega)]
    unfold tMrg
    rw [hl]
    by_cases hb : bt (xW z (p + 1)) n = true
    · rw [if_pos hb, hv1]
      refine ⟨fun q k hk => ?_, fun q k => ?_⟩
      · rw [put_w (by omega) hk, hw q k hk]
        by_cases e : k = n
        · subst e
          simp [hb]
        · have e1 : decide (k < n + 1) = decide (k < n) := by rw [decide_eq_decide]; omega
          simp [e, e1]
      · show va_up (xV (tMrg z p n)) p (vp_updL (xV (tMrg z p n) p) n (xV z (p + 1) n)) q k = _
        by_cases e : q = p
        · subst e
          rw [va_up_self]
          by_cases e2 : k = n
          · subst e2
            rw [pk_uLs, if_pos ⟨rfl, by omega, hb⟩]
          · rw [pk_uLn e2, hv]
            by_cases e3 : k < n ∧ bt (xW z (q + 1)) k = true
            · rw [if_pos ⟨rfl, e3⟩, if_pos ⟨rfl, by omega, e3.2⟩]
            · rw [if_neg (fun c => e3 c.2), if_neg (fun c => e3 ⟨by omega, c.2.2⟩)]
        · rw [va_up_ne _ _ e, hv, if_neg (fun c => e c.1), if_neg (fun c => e c.1)]
    · rw [if_neg hb]
      refine ⟨fun q k hk => ?_, fun q k => ?_⟩
      · rw [hw q k hk]
        by_cases e : k = n
        · subst e
          have hb2 : bt (xW z (p + 1)) k = false := by cases hc : bt (xW z (p + 1)) k; rfl; exact absurd hc hb
          rw [hb2]; simp
        · have e1 : decide (k < n + 1) = decide (k < n) := by rw [decide_eq_decide]; omega
          rw [e1]
      · rw [hv]
        by_cases e3 : q = p ∧ k < n ∧ bt (xW z (p + 1)) k = true
        · rw [if_pos e3, if_pos ⟨e3.1, by omega, e3.2.2⟩]
        · rw [if_neg e3, if_neg (fun c => e3 ⟨c.1, by
            have : k ≠ n := fun q2 => by subst q2; exact hb c.2.2
            omega, c.2.2⟩)]
theorem sim_keep {b : Nat → Nat} {d : xDS} {r : xRS} (h : Sim b d r) (t : Int32) : zE (zKeep r t) = cdOf [qA, qS, qU] (yKeep d t).1 ∧ Sim b (yKeep d t).2 (zKeep r t) := by
  unfold zKeep yKeep
  cases hx : ix 8 t with
  | none => exact ⟨(by first | exact cd0 _ | exact cdA1 | exact cdA2 | exact cdB1 | exact cdB2 | exact cdB3 | exact cdB4 | exact cdC1 | exact cdC2 | exact cdC3 | exact cdD1 | exact cdD2 | exact cdD3 | exact cdE1 | exact cdF1), h⟩
  | some j =>
    obtain ⟨hj, -⟩ := ix_some (by decide) hx
    have hT := h.2.2.2.2 j hj
    dsimp only
    rw [← hT.1]
    by_cases ho : xO (yT d j) = false
    · rw [if_pos ho, if_pos ho]
      exact ⟨(by first | exact cd0 _ | exact cdA1 | exact cdA2 | exact cdB1 | exact cdB2 | exact cdB3 | exact cdB4 | exact cdC1 | exact cdC2 | exact cdC3 | exact cdD1 | exact cdD2 | exact cdD3 | exact cdE1 | exact cdF1), h⟩
    · rw [if_neg ho, if_neg ho]
      have ho2 : xO (yT d j) = true := by cases hb : xO (yT d j); exact absurd hb ho; rfl
      obtain ⟨⟨h1, h2, h3⟩, h4, h5, h6, h7⟩ := hT.2 ho2
      generalize hz : yT d j = z at *
      rw [h3]
      by_cases h8 : xP z ≤ 1
      · rw [if_pos h8, if_pos (by omega)]
        exact ⟨(by first | exact cd0 _ | exact cdA1 | exact cdA2 | exact cdB1 | exact cdB2 | exact cdB3 | exact cdB4 | exact cdC1 | exact cdC2 | exact cdC3 | exact cdD1 | exact cdD2 | exact cdD3 | exact cdE1 | exact cdF1), h⟩
      · rw [if_neg h8, if_neg (by omega)]
        obtain ⟨m1, m2, m3, m4⟩ := mrg_fix (z := z) (p := xP z - 2) 32
        obtain ⟨mw, mv⟩ := mrg_at (z := z) (p := xP z - 2) 32 (Nat.le_refl _)
        have ep : xP z - 2 + 1 = xP z - 1 := by omega
        rw [ep] at mw mv
        have eA : zAt r j 0 = (5 * j + (xP z - 1)) * 32 := by unfold zAt; rw [h3]; omega
        generalize hm : tMrg z (xP z - 2) 32 = zm at *
        refine ⟨(by first | exact cd0 _ | exact cdA1 | exact cdA2 | exact cdB1 | exact cdB2 | exact cdB3 | exact cdB4 | exact cdC1 | exact cdC2 | exact cdC3 | exact cdD1 | exact cdD2 | exact cdD3 | exact cdE1 | exact cdF1), ?_⟩
        refine Sim.at (l := yS d) h rfl rfl h.2.2.2.1.1 h.2.2.2.1.2 ?_ ?_
        · refine ⟨m1.trans hT.1, fun _ => ⟨⟨by show 1 ≤ xP zm - 1; omega, by show xP zm - 1 ≤ 5; omega, by show va_up (zP r) j (xP z - 1) j = xP zm - 1; rw [va_up_self, m4]⟩, fun k hk => ?_, h5, ?_, fun p k hp hk => ?_⟩⟩
          · show bt (xR zm) k = _
            rw [m3]; exact h4 k hk
          · show xS zm = _
            rw [m2]
            exact h6.trans (zSt_eq 32 (by omega) (fun k hk => ⟨rfl, fun _ => rfl, rfl⟩)).symm
          · have hp2 : p < xP z - 1 := by
              have : p < xP zm - 1 := hp
              omega
            show zCpB (zH r) (zAt r j 0) (zAt r j 0 - 32) 32 ((5 * j + p) * 32 + k) = (lastW (xW zm) k (p + 1)).isSome ∧ ∀ q, lastW (xW zm) k (p + 1) = some q → zCpL (zW r) (zAt r j 0) (zAt r j 0 - 32) 32 ((5 * j + p) * 32 + k) = xV zm q k
            have el : ∀ n, n ≤ xP z - 2 → lastW (xW zm) k n = lastW (xW z) k n := fun n hn => lastW_eq n (fun q hq => by rw [mw q k hk]; simp [show q ≠ xP z - 2 by omega])
            rw [zCpB_at 32 _ (by rw [eA]; omega), zCpL_at 32 _ (by rw [eA]; omega)]
            by_cases e : p = xP z - 2
            · subst e
              have e9 : zAt r j 0 + ((5 * j + (xP z - 2)) * 32 + k - (zAt r j 0 - 32)) = (5 * j + (xP z - 1)) * 32 + k := by rw [eA]; omega
              rw [if_pos (by rw [eA]; omega), if_pos (by rw [eA]; omega), e9, lastW_s, mw _ k hk, el _ (Nat.le_refl _)]
              have h9 := h7 (xP z - 1) k (by omega) hk
              rw [lastW_s] at h9
              have e10 : lastW (xW z) k (xP z - 1) = if bt (xW z (xP z - 2)) k = true then some (xP z - 2) else lastW (xW z) k (xP z - 2) := by
                have := lastW_s (w := xW z) (k := k) (n := xP z - 2)
                rw [ep] at this
                exact this
              rw [e10] at h9
              cases hb1 : bt (xW z (xP z - 1)) k
              · rw [hb1, if_neg (by decide)] at h9
                cases hb2 : bt (xW z (xP z - 2)) k
                · rw [hb2, if_neg (by decide)] at h9
                  simp only [hb1, hb2]
                  rw [if_neg (by simp)]
                  refine ⟨h9.1, fun q hq => ?_⟩
                  have hlt := lastW_lt hq
                  rw [h9.2 q hq, mv, if_neg (by omega)]
                · rw [hb2, if_pos rfl] at h9
                  simp only [hb1, hb2]
                  rw [if_pos (by simp)]
                  refine ⟨h9.1, fun q hq => ?_⟩
                  cases hq
                  rw [h9.2 _ rfl, mv, if_neg (by rw [hb1]; simp)]
              · rw [hb1, if_pos rfl] at h9
                simp only [hb1]
                rw [if_pos (by simp [hk])]
                refine ⟨h9.1, fun q hq => ?_⟩
                cases hq
                rw [h9.2 _ rfl, mv, if_pos ⟨rfl, hk, hb1⟩]
            · rw [if_neg (by rw [eA]; omega), if_neg (by rw [eA]; omega), el _ (by omega)]
              obtain ⟨g1, g2⟩ := h7 p k (by omega) hk
              refine ⟨g1, fun q hq => ?_⟩
              have hlt := lastW_lt hq
              rw [g2 q hq, mv, if_neg (by omega)]
        · intro t2 ht2 hne
          refine ⟨rfl, va_up_ne _ _ hne, fun k _ => rfl, fun k _ => rfl, fun q q1 q2 => ?_, fun q q1 q2 => ?_⟩
          · show zCpB (zH r) (zAt r j 0) (zAt r j 0 - 32) 32 q = _
            rw [zCpB_at 32 _ (by rw [eA]; omega), if_neg (by rw [eA]; omega)]
          · show zCpL (zW r) (zAt r j 0) (zAt r j 0 - 32) 32 q = _
            rw [zCpL_at 32 _ (by rw [eA]; omega), if_neg (by rw [eA]; omega)]
theorem zSt_read {r : xRS} {t i : Nat} {S : Nat → Int32} {B : Nat → Bool} {r2 : xRS} (hR : zR r2 = va_up (zR r) (32 * t + i) true) (hG : zG r2 = zG r) (hS : zS r2 = if zR r (32 * t + i) = true then zS r else upd (zS r) (32 * t + i) (zG r i)) : ∀ n, zSt r2 t n = zSt r t n
  | 0 => rfl
  | n + 1 => by
    show (zSt r2 t n || (zR r2 (32 * t + n) && decide (zS r2 (32 * t + n) ≠ zG r2 n))) = (zSt r t n || (zR r (32 * t + n) && decide (zS r (32 * t + n) ≠ zG r n)))
    rw [zSt_read (S := S) (B := B) hR hG hS n, hR, hG, hS]
    by_cases e : n = i
    · subst e
      rw [va_up_self]
      cases hb : zR r (32 * t + n)
      · rw [if_neg (by decide), pk_us]; simp
      · rw [if_pos rfl]
    · rw [va_up_ne _ _ (by omega)]
      by_cases hb : zR r (32 * t + i) = true
      · rw [if_pos hb]
      · rw [if_neg hb, pk_un (by omega)]
theorem sim_read {b : Nat → Nat} {d : xDS} {r : xRS} (h : Sim b d r) (hb : ∀ k, k < 32 → b k < 2 ^ 31) (t k : Int32) : zE (zRead r t k).2 = cdOf [qA, qB, qS, qU] (yRead d t k).1.1 ∧ Sim b (yRead d t k).2 (zRead r t k).2 ∧ ((yRead d t k).1.1 = none → (yRead d t k).1.2 = (zRead r t k).1) := by
  unfold zRead yRead
  cases hx : ix 8 t with
  | none => exact ⟨(by first | exact cd0 _ | exact cdA1 | exact cdA2 | exact cdB1 | exact cdB2 | exact cdB3 | exact cdB4 | exact cdC1 | exact cdC2 | exact cdC3 | exact cdD1 | exact cdD2 | exact cdD3 | exact cdE1 | exact cdF1), h, fun q => by cases q⟩
  | some j =>
    obtain ⟨hj, -⟩ := ix_some (by decide) hx
    cases hy : ix 32 k with
    | none => exact ⟨(by first | exact cd0 _ | exact cdA1 | exact cdA2 | exact cdB1 | exact cdB2 | exact cdB3 | exact cdB4 | exact cdC1 | exact cdC2 | exact cdC3 | exact cdD1 | exact cdD2 | exact cdD3 | exact cdE1 | exact cdF1), h, fun q => by cases q⟩
    | some i =>
      obtain ⟨hi, -⟩ := ix_some (by decide) hy
      have hT := h.2.2.2.2 j hj
      dsimp only
      rw [← hT.1]
      by_cases ho : xO (yT d j) = false
      · rw [if_pos ho, if_pos ho]
        exact ⟨(by first | exact cd0 _ | exact cdA1 | exact cdA2 | exact cdB1 | exact cdB2 | exact cdB3 | exact cdB4 | exact cdC1 | exact cdC2 | exact cdC3 | exact cdD1 | exact cdD2 | exact cdD3 | exact cdE1 | exact cdF1), h, fun q => by cases q⟩
      · rw [if_neg ho, if_neg ho]
        have ho2 : xO (yT d j) = true := by cases hc : xO (yT d j); exact absurd hc ho; rfl
        have hO := hT.2 ho2
        obtain ⟨l1, l2⟩ := hO.lst hi
        obtain ⟨⟨h1, h2, h3⟩, h4, h5, h6, h7⟩ := hO
        generalize hz : yT d j = z at *
        rw [l1]
        cases hl : lastW (xW z) i (xP z) with
        | some q =>
          rw [if_pos (show (some q).isSome = true from rfl)]
          exact ⟨(by first | exact cd0 _ | exact cdA1 | exact cdA2 | exact cdB1 | exact cdB2 | exact cdB3 | exact cdB4 | exact cdC1 | exact cdC2 | exact cdC3 | exact cdD1 | exact cdD2 | exact cdD3 | exact cdE1 | exact cdF1), h, fun _ => (l2 q hl).symm⟩
        | none =>
          rw [if_neg (by decide), ← h6]
          dsimp only
          by_cases hs : xS z = true
          · rw [if_pos hs, if_pos hs]
            refine ⟨(by first | exact cd0 _ | exact cdA1 | exact cdA2 | exact cdB1 | exact cdB2 | exact cdB3 | exact cdB4 | exact cdC1 | exact cdC2 | exact cdC3 | exact cdD1 | exact cdD2 | exact cdD3 | exact cdE1 | exact cdF1), ?_, fun q => by cases q⟩
            unfold yEnd
            rw [hz]
            refine Sim.at (l := yS d + 1) h rfl rfl h.2.2.2.1.1 (by rw [h.2.2.2.1.2]) (simT_cl (by show va_up (zO r) j false j = false; rw [va_up_self])) ?_
            intro t2 ht2 hne
            exact ⟨va_up_ne _ _ hne, rfl, fun k _ => rfl, fun k _ => rfl, fun i _ _ => rfl, fun i _ _ => rfl⟩
          · rw [if_neg hs, if_neg hs]
            refine ⟨(by first | exact cd0 _ | exact cdA1 | exact cdA2 | exact cdB1 | exact cdB2 | exact cdB3 | exact cdB4 | exact cdC1 | exact cdC2 | exact cdC3 | exact cdD1 | exact cdD2 | exact cdD3 | exact cdE1 | exact cdF1), ?_, fun _ => h.1 i hi⟩
            refine Sim.at (l := yS d) h rfl rfl h.2.2.2.1.1 h.2.2.2.1.2 ?_ ?_
            · refine ⟨hT.1, fun _ => ⟨⟨h1, h2, h3⟩, fun q hq => ?_, fun q hq hr => ?_, ?_, h7⟩⟩
              · show bt (xR z ||| sB i) q = va_up (zR r) (32 * j + i) true (32 * j + q)
                rw [or_bt hi hq, h4 q hq]
                by_cases e : q = i
                · subst e; rw [va_up_self]; simp
                · rw [va_up_ne _ _ (by omega)]; simp [e]
              · show ∃ a c : Nat, a ≤ c ∧ c < 2 ^ 31 ∧ (if zR r (32 * j + i) = true then zS r else upd (zS r) (32 * j + i) (zG r i)) (32 * j + q) = nI a ∧ zG r q = nI c
                by_cases e : zR r (32 * j + q) = true
                · obtain ⟨a, c, q1, q2, q3, q4⟩ := h5 q hq e
                  refine ⟨a, c, q1, q2, ?_, q4⟩
                  by_cases e2 : zR r (32 * j + i) = true
                  · rw [if_pos e2]; exact q3
                  · rw [if_neg e2, pk_un (fun w => e2 (by rw [← w]; exact e))]; exact q3
                · have hr2 : va_up (zR r) (32 * j + i) true (32 * j + q) = true := hr
                  have e3 : q = i := by
                    by_cases e4 : q = i
                    · exact e4
                    · rw [va_up_ne _ _ (by omega)] at hr2; exact absurd hr2 e
                  subst e3
                  obtain ⟨c, q1, q2⟩ := h.2.2.1 q hq
                  have := hb q hq
                  exact ⟨c, c, Nat.le_refl _, by omega, by rw [if_neg e, pk_us]; exact q2, q2⟩
              · show xS z = _
                rw [h6]
                exact (zSt_read (r := r) (t := j) (i := i) (S := zS r) (B := zR r) (r2 := (0, zC r, zW r, zG r, zP r, if zR r (32 * j + i) = true then zS r else upd (zS r) (32 * j + i) (zG r i), zH r, va_up (zR r) (32 * j + i) true, zO r, zD r, zL r)) rfl rfl rfl 32).symm
            · intro t2 ht2 hne
              refine ⟨rfl, rfl, fun q hq => ?_, fun q hq => ?_, fun i _ _ => rfl, fun i _ _ => rfl⟩
              · exact va_up_ne _ _ (by omega)
              · show (if zR r (32 * j + i) = true then zS r else upd (zS r) (32 * j + i) (zG r i)) (32 * t2 + q) = _
                by_cases e2 : zR r (32 * j + i) = true
                · rw [if_pos e2]
                · rw [if_neg e2, pk_un (by omega)]
/-- the done transaction stays as it is while its cells change -/
theorem done_t {j : Nat} {d : xDS} (hj : j < 8) (hc : xO (yT d j) = false) : ∀ k, yT (yDoneN j d k) j = yT d j
  | 0 => rfl
  | k + 1 => by
    have ih := done_t hj hc k
    unfold yDoneN
    cases hl : lastW (xW (yT (yDoneN j d k) j)) k (xP (yT (yDoneN j d k) j)) with
    | none => exact ih
    | some p =>
      show yNote (yT (yDoneN j d k)) k 8 j = _
      rw [yNote_at, if_pos hj, ih, tNote_cl hc]
theorem sim_doneN {b : Nat → Nat} {d : xDS} {r : xRS} {j : Nat} {z : xTS} (hj : j < 8) (hz : yT d j = tClose z) (hb : ∀ k, k < 32 → b k + 1 < 2 ^ 31) (hL : ∀ k, k < 32 → zH r (zAt r j k) = (lastW (xW z) k (xP z)).isSome ∧ ∀ q, lastW (xW z) k (xP z) = some q → zW r (zAt r j k) = xV z q k) (h : Sim b d r) :
    ∀ n, n ≤ 32 → Sim (fun i => if i < n then b i + 1 else b i) (yDoneN j d n) (zE r, (zDoneN r j n).1, zW r, (zDoneN r j n).2, r.2.2.2.2)
  | 0, _ => Sim.wide h (fun k _ => by rw [if_neg (by omega)]; exact Nat.le_refl _)
  | n + 1, hn => by
    have ih := sim_doneN hj hz hb hL h n (by omega)
    obtain ⟨l1, l2⟩ := hL n (by omega)
    have ht := done_t (d := d) hj (by rw [hz]; rfl) n
    have ew : lastW (xW (yT (yDoneN j d n) j)) n (xP (yT (yDoneN j d n) j)) = lastW (xW z) n (xP z) := by rw [ht, hz]; rfl
    have wd : ∀ k, k < 32 → (fun i => if i < n then b i + 1 else b i) k ≤ (fun i => if i < n + 1 then b i + 1 else b i) k := fun k _ => by
      by_cases e : k < n
      · simp [e, show k < n + 1 by omega]
      · by_cases e2 : k < n + 1
        · simp [e, e2]
        · simp [e, e2]
    unfold yDoneN zDoneN
    rw [ew, l1]
    cases hl : lastW (xW z) n (xP z) with
    | none =>
      rw [if_neg (by decide)]
      exact Sim.wide ih wd
    | some p =>
      rw [if_pos (show (some p).isSome = true from rfl)]
      have hv : xV (yT (yDoneN j d n) j) p n = zW r (zAt r j n) := by rw [ht, hz]; exact (l2 p hl).symm
      dsimp only
      rw [hv]
      have hcg := Sim.change (x := zW r (zAt r j n)) ih (k := n) (by omega) (by rw [if_neg (by omega)]; exact hb n (by omega))
      refine Sim.wide (b := va_up (fun i => if i < n then b i + 1 else b i) n ((if n < n then b n + 1 else b n) + 1)) hcg (fun k hk => ?_)
      by_cases e : k = n
      · subst e
        rw [va_up_self, if_neg (by omega), if_pos (by omega)]
        exact Nat.le_refl _
      · rw [va_up_ne _ _ e]
        exact wd k hk
theorem sim_done {b : Nat → Nat} {d : xDS} {r : xRS} (h : Sim b d r) (hb : ∀ k, k < 32 → b k + 1 < 2 ^ 31) (t : Int32) : zE (zDone r t).2 = cdOf [qA, qS] (yDone d t).1.1 ∧ Sim (fun i => b i + 1) (yDone d t).2 (zDone r t).2 ∧ ((yDone d t).1.1 = none → (yDone d t).1.2 = (zDone r t).1) := by
  have hw : ∀ {d2 : xDS} {r2 : xRS}, Sim b d2 r2 → Sim (fun i => b i + 1) d2 r2 := fun q => Sim.wide q (fun i _ => Nat.le_succ _)
  unfold zDone yDone
  cases hx : ix 8 t with
  | none => exact ⟨(by first | exact cd0 _ | exact cdA1 | exact cdA2 | exact cdB1 | exact cdB2 | exact cdB3 | exact cdB4 | exact cdC1 | exact cdC2 | exact cdC3 | exact cdD1 | exact cdD2 | exact cdD3 | exact cdE1 | exact cdF1), hw h, fun q => by cases q⟩
  | some j =>
    obtain ⟨hj, -⟩ := ix_some (by decide) hx
    have hT := h.2.2.2.2 j hj
    dsimp only
    rw [← hT.1]
    by_cases ho : xO (yT d j) = false
    · rw [if_pos ho, if_pos ho]
      exact ⟨(by first | exact cd0 _ | exact cdA1 | exact cdA2 | exact cdB1 | exact cdB2 | exact cdB3 | exact cdB4 | exact cdC1 | exact cdC2 | exact cdC3 | exact cdD1 | exact cdD2 | exact cdD3 | exact cdE1 | exact cdF1), hw h, fun q => by cases q⟩
    · rw [if_neg ho, if_neg ho]
      have ho2 : xO (yT d j) = true := by cases hc : xO (yT d j); exact absurd hc ho; rfl
      have hO := hT.2 ho2
      have hlst := fun k (hk : k < 32) => hO.lst hk
      obtain ⟨⟨h1, h2, h3⟩, h4, h5, h6, h7⟩ := hO
      rw [← h6]
      have hcl : zO (zE r, zC r, zW r, zG r, zP r, zS r, zH r, zR r, va_up (zO r) j false, zD r, zL r) j = false := va_up_self _ _ _
      by_cases hs : xS (yT d j) = true
      · rw [if_pos hs, if_pos hs]
        refine ⟨(by first | exact cd0 _ | exact cdA1 | exact cdA2 | exact cdB1 | exact cdB2 | exact cdB3 | exact cdB4 | exact cdC1 | exact cdC2 | exact cdC3 | exact cdD1 | exact cdD2 | exact cdD3 | exact cdE1 | exact cdF1), hw ?_, fun _ => rfl⟩
        unfold yEnd
        refine Sim.at (l := yS d + 1) h rfl rfl h.2.2.2.1.1 (by rw [h.2.2.2.1.2]) (simT_cl hcl) ?_
        intro t2 ht2 hne
        exact ⟨va_up_ne _ _ hne, rfl, fun k _ => rfl, fun k _ => rfl, fun i _ _ => rfl, fun i _ _ => rfl⟩
      · rw [if_neg hs, if_neg hs]
        refine ⟨(by first | exact cd0 _ | exact cdA1 | exact cdA2 | exact cdB1 | exact cdB2 | exact cdB3 | exact cdB4 | exact cdC1 | exact cdC2 | exact cdC3 | exact cdD1 | exact cdD2 | exact cdD3 | exact cdE1 | exact cdF1), ?_, fun _ => rfl⟩
        have hS : Sim b (ySet d j (tClose (yT d j))) (zE r, zC r, zW r, zG r, zP r, zS r, zH r, zR r, va_up (zO r) j false, zD r, zL r) := by
          refine Sim.at (l := yS d) h rfl rfl h.2.2.2.1.1 h.2.2.2.1.2 (simT_cl hcl) ?_
          intro t2 ht2 hne
          exact ⟨va_up_ne _ _ hne, rfl, fun k _ => rfl, fun k _ => rfl, fun i _ _ => rfl, fun i _ _ => rfl⟩
        have hD := sim_doneN (r := (zE r, zC r, zW r, zG r, zP r, zS r, zH r, zR r, va_up (zO r) j false, zD r, zL r)) (d := ySet d j (tClose (yT d j))) (j := j) (z := yT d j) hj (by show va_up (yT d) j (tClose (yT d j)) j = _; rw [va_up_self]) hb hlst hS 32 (Nat.le_refl _)
        obtain ⟨g1, g2, g3, g4, g5⟩ := Sim.wide (b2 := fun i => b i + 1) hD (fun k hk => by simp only [hk, if_true]; exact Nat.le_refl _)
        have ez : ∀ n, zDoneN (zE r, zC r, zW r, zG r, zP r, zS r, zH r, zR r, va_up (zO r) j false, zD r, zL r) j n = zDoneN r j n := by
          intro n
          induction n with
          | zero => rfl
          | succ n ih => unfold zDoneN; rw [ih]; rfl
        rw [ez] at g1 g2 g3 g5
        have g6 : yD (yDoneN j (ySet d j (tClose (yT d j))) 32) = zD r ∧ yS (yDoneN j (ySet d j (tClose (yT d j))) 32) = zL r := g4
        clear g4 hD ez
        generalize yDoneN j (ySet d j (tClose (yT d j))) 32 = D at *
        generalize zDoneN r j 32 = Z at *
        refine ⟨g1, g2, g3, ⟨?_, g6.2⟩, fun t2 ht2 => ⟨(g5 t2 ht2).1, fun ho2 => SimO.same ((g5 t2 ht2).2 ho2) rfl (fun _ _ => rfl) (fun _ _ => rfl) (fun _ _ => rfl) (fun _ _ _ => rfl) (fun _ _ _ => rfl)⟩⟩
        show yD D + 1 = zD r + 1
        rw [g6.1]
/-- the two new objects -/
def tNew : xTS := (false, false, 0, 1, fun _ => 0, fun _ _ => 0)
def yNew : xDS := (fun _ => 0, fun _ => 0, fun _ => tNew, 0, 0)
def zNew : xRS := (0, fun _ => 0, fun _ => 0, fun _ => 0, fun _ => 0, fun _ => 0, fun _ => false, fun _ => false, fun _ => false, 0, 0)
theorem sim_new : Sim (fun _ => 0) yNew zNew := ⟨fun _ _ => rfl, fun _ _ => rfl, fun _ _ => ⟨0, Nat.le_refl _, nI_0.symm⟩, ⟨rfl, rfl⟩, fun _ _ => ⟨rfl, fun q => by cases q⟩⟩
