/-! The pure side: what a transaction, the desk and the reference are, as mathematical values, and what each call does to them. The rows bt .. b_sshr began as kit/laws/BITS.to-paste. -/
def bt (x : Int32) (i : Nat) : Bool := x.toBitVec.getLsbD i
theorem b_ext {x y : Int32} (h : ∀ i, i < 32 → bt x i = bt y i) : x = y := Int32.toBitVec_inj.mp (BitVec.eq_of_getLsbD_eq (fun i hi => h i hi))
theorem b_or (x y : Int32) (i : Nat) : bt (x ||| y) i = (bt x i || bt y i) := by unfold bt; rw [Int32.toBitVec_or, BitVec.getLsbD_or]
theorem b_and (x y : Int32) (i : Nat) : bt (x &&& y) i = (bt x i && bt y i) := by unfold bt; rw [Int32.toBitVec_and, BitVec.getLsbD_and]
theorem b_big {x : Int32} {i : Nat} (h : 32 ≤ i) : bt x i = false := BitVec.getLsbD_of_ge _ _ h
theorem b_0 (i : Nat) : bt 0 i = false := BitVec.getLsbD_zero
theorem s_l : ∀ n, n < 32 → ((nI n &&& 31).toBitVec.smod 32).toNat = n := by decide +kernel
theorem b_shl (n : Nat) (hn : n < 32) (x : Int32) {i : Nat} (hi : i < 32) : bt (x <<< (nI n &&& 31)) i = (decide (n ≤ i) && bt x (i - n)) := by
  unfold bt
  rw [Int32.toBitVec_shiftLeft]
  show (x.toBitVec <<< ((nI n &&& 31).toBitVec.smod 32).toNat).getLsbD i = _
  rw [s_l n hn, BitVec.getLsbD_shiftLeft]
  rcases Nat.lt_or_ge i n with h | h
  · simp [h, Nat.not_le.mpr h]
  · simp [hi, h, Nat.not_lt.mpr h]
theorem b_sshr (n : Nat) (hn : n < 32) (x : Int32) {i : Nat} (hi : i < 32) : bt (x >>> (nI n &&& 31)) i = if n + i < 32 then bt x (n + i) else bt x 31 := by
  unfold bt
  rw [Int32.toBitVec_shiftRight]
  show (x.toBitVec.sshiftRight ((nI n &&& 31).toBitVec.smod 32).toNat).getLsbD i = _
  rw [s_l n hn, BitVec.getLsbD_sshiftRight, BitVec.msb_eq_getLsbD_last]
  simp [hi]
theorem b_1 : ∀ i, i < 32 → bt 1 i = decide (i = 0) := by decide +kernel
def bI (b : Bool) : Int32 := if b = true then 1 else 0
theorem bI_eq {b : Bool} : bI b = 1 ↔ b = true := by cases b <;> decide
theorem bI_ne {b : Bool} : bI b = 0 ↔ b = false := by cases b <;> decide
theorem bI_inj {b d : Bool} (h : bI b = bI d) : b = d := by cases b <;> cases d <;> first | rfl | (exact absurd h (by decide))
theorem bI_nar (b : Bool) : narrow .boolean (.int (bI b)) = .int (bI b) := by cases b <;> decide +kernel
theorem bI_fit (b : Bool) : fits .boolean (.int (bI b)) = true := by cases b <;> decide +kernel
theorem bI_vnar (b : Bool) : vp_nar .boolean (bI b) = bI b := by cases b <;> decide +kernel
/-- 1 << k -/
def sB (k : Nat) : Int32 := (1 : Int32) <<< (nI k &&& 31)
theorem sB_bt {k i : Nat} (hk : k < 32) (hi : i < 32) : bt (sB k) i = decide (i = k) := by
  unfold sB
  rw [b_shl k hk 1 hi]
  rcases Nat.lt_or_ge i k with h | h
  · simp [Nat.not_le.mpr h, Nat.ne_of_lt h]
  · rw [b_1 _ (by omega)]
    simp only [h, decide_true, Bool.true_and]
    rw [decide_eq_decide]
    omega
theorem or_bt {x : Int32} {k i : Nat} (hk : k < 32) (hi : i < 32) : bt (x ||| sB k) i = (bt x i || decide (i = k)) := by rw [b_or, sB_bt hk hi]
/-- (x >> k) & 1 -/
theorem hold_bt (x : Int32) {k : Nat} (hk : k < 32) : (x >>> (nI k &&& 31)) &&& 1 = bI (bt x k) := by
  apply b_ext
  intro i hi
  rw [b_and, b_1 i hi, b_sshr k hk x hi]
  by_cases h : i = 0
  · subst h
    rw [if_pos (by omega)]
    show (bt x k && decide (0 = 0)) = bt (bI (bt x k)) 0
    cases bt x k <;> decide
  · simp only [h, decide_false, Bool.and_false]
    cases bt x k
    · exact (b_0 i).symm
    · show false = bt 1 i
      rw [b_1 i hi, decide_eq_false h]
/-- a transaction: open, stale, read cells, parts, written cells of each part, values of each part -/
abbrev xTS : Type := Bool × Bool × Int32 × Nat × (Nat → Int32) × (Nat → Nat → Int64)
abbrev xO (z : xTS) : Bool := z.1
abbrev xS (z : xTS) : Bool := z.2.1
abbrev xR (z : xTS) : Int32 := z.2.2.1
abbrev xP (z : xTS) : Nat := z.2.2.2.1
abbrev xW (z : xTS) : Nat → Int32 := z.2.2.2.2.1
abbrev xV (z : xTS) : Nat → Nat → Int64 := z.2.2.2.2.2
/-- the last of the first n parts in which cell k was written -/
def lastW (w : Nat → Int32) (k : Nat) : Nat → Option Nat
  | 0 => none
  | p + 1 => if bt (w p) k = true then some p else lastW w k p
def lastI (o : Option Nat) : Int32 := match o with
  | none => -1
  | some p => nI p
theorem lastW_lt {w : Nat → Int32} {k : Nat} : ∀ {n p : Nat}, lastW w k n = some p → p < n
  | 0, p, h => by cases h
  | n + 1, p, h => by
    unfold lastW at h
    by_cases hb : bt (w n) k = true
    · rw [if_pos hb] at h; cases h; omega
    · rw [if_neg hb] at h; have := lastW_lt h; omega
theorem lastW_bt {w : Nat → Int32} {k : Nat} : ∀ {n p : Nat}, lastW w k n = some p → bt (w p) k = true
  | 0, p, h => by cases h
  | n + 1, p, h => by
    unfold lastW at h
    by_cases hb : bt (w n) k = true
    · rw [if_pos hb] at h; cases h; exact hb
    · rw [if_neg hb] at h; exact lastW_bt h
def tStart (z : xTS) : xTS := (true, false, 0, 1, upd (xW z) 0 0, xV z)
def tClose (z : xTS) : xTS := (false, z.2)
def tMark (z : xTS) (k : Nat) : xTS := (xO z, xS z, xR z ||| sB k, z.2.2.2)
def tNote (z : xTS) (k : Nat) : xTS := if (xO z && bt (xR z) k) = true then (xO z, true, z.2.2) else z
def tPut (z : xTS) (p k : Nat) (x : Int64) : xTS := (xO z, xS z, xR z, xP z, upd (xW z) p (xW z p ||| sB k), va_up (xV z) p (vp_updL (xV z p) k x))
def tAdd (z : xTS) : xTS := (xO z, xS z, xR z, xP z + 1, upd (xW z) (xP z) 0, xV z)
def tDrop (z : xTS) : xTS := (xO z, xS z, xR z, xP z - 1, xW z, xV z)
def tMrg (z : xTS) (p : Nat) : Nat → xTS
  | 0 => z
  | k + 1 => if bt (xW (tMrg z p k) (p + 1)) k = true then tPut (tMrg z p k) p k (xV (tMrg z p k) (p + 1) k) else tMrg z p k
/-- the cells that one of the first n parts has written -/
def tAll (w : Nat → Int32) : Nat → Int32
  | 0 => 0
  | p + 1 => tAll w p ||| w p
/-- how many of the first n bits are set -/
def bCnt (x : Int32) : Nat → Nat
  | 0 => 0
  | n + 1 => bCnt x n + (if bt x n = true then 1 else 0)
/-- the desk: numbers, changes, transactions, done, stale -/
abbrev xDS : Type := (Nat → Int64) × (Nat → Int32) × (Nat → xTS) × Int32 × Int32
abbrev yN (d : xDS) : Nat → Int64 := d.1
abbrev yC (d : xDS) : Nat → Int32 := d.2.1
abbrev yT (d : xDS) : Nat → xTS := d.2.2.1
abbrev yD (d : xDS) : Int32 := d.2.2.2.1
abbrev yS (d : xDS) : Int32 := d.2.2.2.2
def yNote (f : Nat → xTS) (k : Nat) : Nat → Nat → xTS
  | 0 => f
  | n + 1 => va_up (yNote f k n) n (tNote (yNote f k n n) k)
def yChange (d : xDS) (k : Nat) (x : Int64) : xDS := (vp_updL (yN d) k x, upd (yC d) k (yC d k + 1), yNote (yT d) k 8, yD d, yS d)
def ySet (d : xDS) (t : Nat) (z : xTS) : xDS := (yN d, yC d, va_up (yT d) t z, yD d, yS d)
def yDoneN (t : Nat) (d : xDS) : Nat → xDS
  | 0 => d
  | k + 1 => match lastW (xW (yT (yDoneN t d k) t)) k (xP (yT (yDoneN t d k) t)) with
    | none => yDoneN t d k
    | some p => yChange (yDoneN t d k) k (xV (yT (yDoneN t d k) t) p k)
def yOpen (f : Nat → xTS) : Nat → Nat
  | 0 => 0
  | n + 1 => yOpen f n + (if xO (f n) = true then 1 else 0)
