/-! What each call does: to the desk (y..) and to the reference (z..). -/
/-- the index that an int is, below n -/
def ix (n : Nat) (x : Int32) : Option Nat := if 0 ≤ x.toInt ∧ x.toInt < (n : Int) then some x.toInt.toNat else none
theorem ix_some {n j : Nat} {x : Int32} (hn : n < 2 ^ 31) (h : ix n x = some j) : j < n ∧ x = nI j := by
  unfold ix at h
  by_cases hc : 0 ≤ x.toInt ∧ x.toInt < (n : Int)
  · rw [if_pos hc] at h
    have hj : x.toInt.toNat = j := Option.some.inj h
    have h1 : x.toInt = (j : Int) := by omega
    refine ⟨by omega, Int32.toInt_inj.mp ?_⟩
    rw [nI_toInt (by omega)]
    exact h1
  · rw [if_neg hc] at h; cases h
theorem ix_none {n : Nat} {x : Int32} (hn : n < 2 ^ 31) (h : ix n x = none) : x < 0 ∨ nI n ≤ x := by
  unfold ix at h
  by_cases hc : 0 ≤ x.toInt ∧ x.toInt < (n : Int)
  · rw [if_pos hc] at h; cases h
  · rcases Int.lt_or_le x.toInt 0 with h0 | h0
    · left
      rw [Int32.lt_iff_toInt_lt, Int32.toInt_zero]
      exact h0
    · right
      rw [Int32.le_iff_toInt_le, nI_toInt hn]
      omega
theorem ix_nI {n j : Nat} (h : j < n) (hn : n < 2 ^ 31) : ix n (nI j) = some j := by
  unfold ix
  rw [nI_toInt (by omega), if_pos (by omega)]
  rfl
abbrev qA : String := "java/lang/IllegalArgumentException"
abbrev qS : String := "java/lang/IllegalStateException"
abbrev qB : String := "java/lang/IndexOutOfBoundsException"
abbrev qU : String := "java/lang/UnsupportedOperationException"
def yBegin (d : xDS) (t : Int32) : Option String × xDS := match ix 8 t with
  | none => (some qA, d)
  | some j => if xO (yT d j) = true then (some qS, d) else (none, ySet d j (tStart (yT d j)))
/-- the transaction ends, stale -/
def yEnd (d : xDS) (j : Nat) : xDS := (yN d, yC d, va_up (yT d) j (tClose (yT d j)), yD d, yS d + 1)
def yRead (d : xDS) (t k : Int32) : (Option String × Int64) × xDS := match ix 8 t with
  | none => ((some qA, 0), d)
  | some j => match ix 32 k with
    | none => ((some qB, 0), d)
    | some i => if xO (yT d j) = false then ((some qS, 0), d) else
      match lastW (xW (yT d j)) i (xP (yT d j)) with
      | some p => ((none, xV (yT d j) p i), d)
      | none => if xS (yT d j) = true then ((some qU, 0), yEnd d j) else ((none, yN d i), ySet d j (tMark (yT d j) i))
def yWrite (d : xDS) (t k : Int32) (x : Int64) : Option String × xDS := match ix 8 t with
  | none => (some qA, d)
  | some j => match ix 32 k with
    | none => (some qB, d)
    | some i => if xO (yT d j) = false then (some qS, d) else (none, ySet d j (tPut (yT d j) (xP (yT d j) - 1) i x))
def ySave (d : xDS) (t : Int32) : (Option String × Int32) × xDS := match ix 8 t with
  | none => ((some qA, 0), d)
  | some j => if xO (yT d j) = false then ((some qS, 0), d) else if 5 ≤ xP (yT d j) then ((some qU, 0), d) else ((none, nI (xP (yT d j) + 1)), ySet d j (tAdd (yT d j)))
def yBack (d : xDS) (t : Int32) : Option String × xDS := match ix 8 t with
  | none => (some qA, d)
  | some j => if xO (yT d j) = false then (some qS, d) else if xP (yT d j) ≤ 1 then (some qU, d) else (none, ySet d j (tDrop (yT d j)))
def yKeep (d : xDS) (t : Int32) : Option String × xDS := match ix 8 t with
  | none => (some qA, d)
  | some j => if xO (yT d j) = false then (some qS, d) else if xP (yT d j) ≤ 1 then (some qU, d) else (none, ySet d j (tDrop (tMrg (yT d j) (xP (yT d j) - 2) 32)))
def yDone (d : xDS) (t : Int32) : (Option String × Bool) × xDS := match ix 8 t with
  | none => ((some qA, false), d)
  | some j => if xO (yT d j) = false then ((some qS, false), d) else if xS (yT d j) = true then ((none, false), yEnd d j) else
    ((none, true), (yN (yDoneN j (ySet d j (tClose (yT d j))) 32), yC (yDoneN j (ySet d j (tClose (yT d j))) 32), yT (yDoneN j (ySet d j (tClose (yT d j))) 32), yD (yDoneN j (ySet d j (tClose (yT d j))) 32) + 1, yS (yDoneN j (ySet d j (tClose (yT d j))) 32)))
def yLeave (d : xDS) (t : Int32) : Option String × xDS := match ix 8 t with
  | none => (some qA, d)
  | some j => if xO (yT d j) = false then (some qS, d) else (none, ySet d j (tClose (yT d j)))
def yPut (d : xDS) (k : Int32) (x : Int64) : Option String × xDS := match ix 32 k with
  | none => (some qB, d)
  | some i => (none, yChange d i x)
def yCell (d : xDS) (k : Int32) : Option String × Int64 := match ix 32 k with
  | none => (some qB, 0)
  | some i => (none, yN d i)
def yChd (d : xDS) (k : Int32) : Option String × Int32 := match ix 32 k with
  | none => (some qB, 0)
  | some i => (none, yC d i)
def yCount (d : xDS) (t w : Int32) : Option String × Int32 := match ix 4 w with
  | none => (some qA, 0)
  | some c => match ix 8 t with
    | none => (some qA, 0)
    | some j => if xO (yT d j) = false then (some qS, 0) else
      (none, if c = 0 then nI (bCnt (xR (yT d j)) 32) else if c = 1 then nI (bCnt (tAll (xW (yT d j)) (xP (yT d j))) 32) else if c = 2 then nI (xP (yT d j)) else bI (xS (yT d j)))
def yAll (d : xDS) (w : Int32) : Option String × Int32 := match ix 3 w with
  | none => (some qA, 0)
  | some c => (none, if c = 0 then nI (yOpen (yT d) 8) else if c = 1 then yD d else yS d)
/-- the reference: err, cells, wrote, changes, parts, seen, has, read, open, done, stale -/
abbrev xRS : Type := Int32 × (Nat → Int64) × (Nat → Int64) × (Nat → Int32) × (Nat → Nat) × (Nat → Int32) × (Nat → Bool) × (Nat → Bool) × (Nat → Bool) × Int32 × Int32
abbrev zE (r : xRS) : Int32 := r.1
abbrev zC (r : xRS) : Nat → Int64 := r.2.1
abbrev zW (r : xRS) : Nat → Int64 := r.2.2.1
abbrev zG (r : xRS) : Nat → Int32 := r.2.2.2.1
abbrev zP (r : xRS) : Nat → Nat := r.2.2.2.2.1
abbrev zS (r : xRS) : Nat → Int32 := r.2.2.2.2.2.1
abbrev zH (r : xRS) : Nat → Bool := r.2.2.2.2.2.2.1
abbrev zR (r : xRS) : Nat → Bool := r.2.2.2.2.2.2.2.1
abbrev zO (r : xRS) : Nat → Bool := r.2.2.2.2.2.2.2.2.1
abbrev zD (r : xRS) : Int32 := r.2.2.2.2.2.2.2.2.2.1
abbrev zL (r : xRS) : Int32 := r.2.2.2.2.2.2.2.2.2.2
def zErr (r : xRS) (c : Int32) : xRS := (c, r.2)
/-- the place of cell k in the last part of t -/
def zAt (r : xRS) (t k : Nat) : Nat := (5 * t + zP r t - 1) * 32 + k
def zClr (f : Nat → Bool) (b : Nat) : Nat → Nat → Bool
  | 0 => f
  | n + 1 => va_up (zClr f b n) (b + n) false
def zCpB (f : Nat → Bool) (a b : Nat) : Nat → Nat → Bool
  | 0 => f
  | n + 1 => va_up (zCpB f a b n) (b + n) (zCpB f a b n (a + n))
def zCpL (f : Nat → Int64) (a b : Nat) : Nat → Nat → Int64
  | 0 => f
  | n + 1 => vp_updL (zCpL f a b n) (b + n) (zCpL f a b n (a + n))
def zSt (r : xRS) (t : Nat) : Nat → Bool
  | 0 => false
  | n + 1 => zSt r t n || (zR r (32 * t + n) && decide (zS r (32 * t + n) ≠ zG r n))
def zBegin (r : xRS) (t : Int32) : xRS := match ix 8 t with
  | none => zErr r 1
  | some j => if zO r j = true then zErr r 2 else (0, zC r, zW r, zG r, va_up (zP r) j 1, zS r, zClr (zH r) (160 * j) 32, zClr (zR r) (32 * j) 32, va_up (zO r) j true, zD r, zL r)
def zRead (r : xRS) (t k : Int32) : Int64 × xRS := match ix 8 t with
  | none => (0, zErr r 1)
  | some j => match ix 32 k with
    | none => (0, zErr r 2)
    | some i => if zO r j = false then (0, zErr r 3) else if zH r (zAt r j i) = true then (zW r (zAt r j i), zErr r 0) else
      if zSt r j 32 = true then (0, (4, zC r, zW r, zG r, zP r, zS r, zH r, zR r, va_up (zO r) j false, zD r, zL r + 1)) else
      (zC r i, (0, zC r, zW r, zG r, zP r, if zR r (32 * j + i) = true then zS r else upd (zS r) (32 * j + i) (zG r i), zH r, va_up (zR r) (32 * j + i) true, zO r, zD r, zL r))
def zWrite (r : xRS) (t k : Int32) (x : Int64) : xRS := match ix 8 t with
  | none => zErr r 1
  | some j => match ix 32 k with
    | none => zErr r 2
    | some i => if zO r j = false then zErr r 3 else (0, zC r, vp_updL (zW r) (zAt r j i) x, zG r, zP r, zS r, va_up (zH r) (zAt r j i) true, zR r, zO r, zD r, zL r)
def zSave (r : xRS) (t : Int32) : Int32 × xRS := match ix 8 t with
  | none => (0, zErr r 1)
  | some j => if zO r j = false then (0, zErr r 2) else if zP r j = 5 then (0, zErr r 3) else
    (nI (zP r j + 1), (0, zC r, zCpL (zW r) (zAt r j 0) (zAt r j 0 + 32) 32, zG r, va_up (zP r) j (zP r j + 1), zS r, zCpB (zH r) (zAt r j 0) (zAt r j 0 + 32) 32, zR r, zO r, zD r, zL r))
def zBack (r : xRS) (t : Int32) : xRS := match ix 8 t with
  | none => zErr r 1
  | some j => if zO r j = false then zErr r 2 else if zP r j = 1 then zErr r 3 else (0, zC r, zW r, zG r, va_up (zP r) j (zP r j - 1), zS r, zH r, zR r, zO r, zD r, zL r)
def zKeep (r : xRS) (t : Int32) : xRS := match ix 8 t with
  | none => zErr r 1
  | some j => if zO r j = false then zErr r 2 else if zP r j = 1 then zErr r 3 else
    (0, zC r, zCpL (zW r) (zAt r j 0) (zAt r j 0 - 32) 32, zG r, va_up (zP r) j (zP r j - 1), zS r, zCpB (zH r) (zAt r j 0) (zAt r j 0 - 32) 32, zR r, zO r, zD r, zL r)
def zDoneN (r : xRS) (t : Nat) : Nat → (Nat → Int64) × (Nat → Int32)
  | 0 => (zC r, zG r)
  | k + 1 => if zH r (zAt r t k) = true then (vp_updL (zDoneN r t k).1 k (zW r (zAt r t k)), upd (zDoneN r t k).2 k ((zDoneN r t k).2 k + 1)) else zDoneN r t k
def zDone (r : xRS) (t : Int32) : Bool × xRS := match ix 8 t with
  | none => (false, zErr r 1)
  | some j => if zO r j = false then (false, zErr r 2) else if zSt r j 32 = true then (false, (0, zC r, zW r, zG r, zP r, zS r, zH r, zR r, va_up (zO r) j false, zD r, zL r + 1)) else
    (true, (0, (zDoneN r j 32).1, zW r, (zDoneN r j 32).2, zP r, zS r, zH r, zR r, va_up (zO r) j false, zD r + 1, zL r))
def zLeave (r : xRS) (t : Int32) : xRS := match ix 8 t with
  | none => zErr r 1
  | some j => if zO r j = false then zErr r 2 else (0, zC r, zW r, zG r, zP r, zS r, zH r, zR r, va_up (zO r) j false, zD r, zL r)
def zPut (r : xRS) (k : Int32) (x : Int64) : xRS := match ix 32 k with
  | none => zErr r 1
  | some i => (0, vp_updL (zC r) i x, zW r, upd (zG r) i (zG r i + 1), r.2.2.2.2)
def zCell (r : xRS) (k : Int32) : Int64 × xRS := match ix 32 k with
  | none => (0, zErr r 1)
  | some i => (zC r i, zErr r 0)
def zChd (r : xRS) (k : Int32) : Int32 × xRS := match ix 32 k with
  | none => (0, zErr r 1)
  | some i => (zG r i, zErr r 0)
def zCntR (r : xRS) (t : Nat) : Nat → Nat
  | 0 => 0
  | n + 1 => zCntR r t n + (if zR r (32 * t + n) = true then 1 else 0)
def zCntH (r : xRS) (t : Nat) : Nat → Nat
  | 0 => 0
  | n + 1 => zCntH r t n + (if zH r (zAt r t n) = true then 1 else 0)
def zCount (r : xRS) (t w : Int32) : Int32 × xRS := match ix 8 t with
  | none => (0, zErr r 1)
  | some j => match ix 4 w with
    | none => (0, zErr r 1)
    | some c => if zO r j = false then (0, zErr r 2) else
      (if c = 0 then nI (zCntR r j 32) else if c = 1 then nI (zCntH r j 32) else if c = 2 then nI (zP r j) else bI (zSt r j 32), zErr r 0)
def zOpn (r : xRS) : Nat → Nat
  | 0 => 0
  | n + 1 => zOpn r n + (if zO r n = true then 1 else 0)
def zAll (r : xRS) (w : Int32) : Int32 × xRS := match ix 3 w with
  | none => (0, zErr r 1)
  | some c => (if c = 0 then nI (zOpn r 8) else if c = 1 then zD r else zL r, zErr r 0)
