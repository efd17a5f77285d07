/-! Integer.bitCount's sum of bits, over numbers. -/
theorem bc_and {h m a c : Nat} (ha : a < 256) (hc : c < 256) : (256 * h + a) &&& (256 * m + c) = 256 * (h &&& m) + (a &&& c) := by
  have hac : a &&& c < 2 ^ 8 := Nat.lt_of_le_of_lt Nat.and_le_left ha
  have e1 : ∀ i, (256 * h + a).testBit i = if i < 8 then a.testBit i else h.testBit (i - 8) := fun i => Nat.testBit_two_pow_mul_add h (i := 8) ha i
  have e2 : ∀ i, (256 * m + c).testBit i = if i < 8 then c.testBit i else m.testBit (i - 8) := fun i => Nat.testBit_two_pow_mul_add m (i := 8) hc i
  have e3 : ∀ i, (256 * (h &&& m) + (a &&& c)).testBit i = if i < 8 then (a &&& c).testBit i else (h &&& m).testBit (i - 8) := fun i => Nat.testBit_two_pow_mul_add (h &&& m) (i := 8) hac i
  apply Nat.eq_of_testBit_eq
  intro i
  rw [Nat.testBit_and, e1, e2, e3]
  by_cases hi : i < 8
  · rw [if_pos hi, if_pos hi, if_pos hi, Nat.testBit_and]
  · rw [if_neg hi, if_neg hi, if_neg hi, Nat.testBit_and]
def bc1 (n m : Nat) : Nat := n - ((n / 2) &&& m)
def bc2 (n m : Nat) : Nat := (n &&& m) + ((n / 4) &&& m)
def bc3 (n m : Nat) : Nat := (n + n / 16) &&& m
theorem bc_t1 : ∀ a, a < 256 → ∀ g, g < 2 → ((128 * g + a / 2) &&& 85) = ((a / 2) &&& 85) ∧ ((a / 2) &&& 85) ≤ a := by decide +kernel
theorem bc_t2 : ∀ a, a < 256 → ∀ g, g < 4 → ((64 * g + a / 4) &&& 51) = ((a / 4) &&& 51) := by decide +kernel
theorem bc_t3 : ∀ a, a < 256 → a % 16 ≤ 4 → a / 16 ≤ 4 → ∀ g, g < 5 → ((a + (16 * g + a / 16)) &&& 15) = ((a + a / 16) &&& 15) ∧ a + (16 * g + a / 16) < 256 := by decide +kernel
theorem bc_s1 {h a m : Nat} (ha : a < 256) (hm : h / 2 &&& m ≤ h) : bc1 (256 * h + a) (256 * m + 85) = 256 * bc1 h m + bc1 a 85 := by
  obtain ⟨t1, t2⟩ := bc_t1 a ha (h % 2) (by omega)
  have e1 : (256 * h + a) / 2 = 256 * (h / 2) + (128 * (h % 2) + a / 2) := by omega
  unfold bc1
  rw [e1, bc_and (by omega) (by decide), t1]
  generalize h / 2 &&& m = u at *
  generalize a / 2 &&& 85 = v at *
  omega
theorem bc_s2 {h a m : Nat} (ha : a < 256) : bc2 (256 * h + a) (256 * m + 51) = 256 * bc2 h m + bc2 a 51 := by
  have t1 := bc_t2 a ha (h % 4) (by omega)
  have e1 : (256 * h + a) / 4 = 256 * (h / 4) + (64 * (h % 4) + a / 4) := by omega
  unfold bc2
  rw [e1, bc_and (by omega) (by decide), bc_and (by omega) (by decide), t1]
  omega
theorem bc_s3 {h a m : Nat} (ha : a < 256) (h1 : a % 16 ≤ 4) (h2 : a / 16 ≤ 4) (h3 : h % 16 ≤ 4) : bc3 (256 * h + a) (256 * m + 15) = 256 * bc3 h m + bc3 a 15 := by
  obtain ⟨t1, t2⟩ := bc_t3 a ha h1 h2 (h % 16) (by omega)
  have e1 : (256 * h + a) + (256 * h + a) / 16 = 256 * (h + h / 16) + (a + (16 * (h % 16) + a / 16)) := by omega
  unfold bc3
  rw [e1, bc_and t2 (by decide), t1]
def bcB (a : Nat) : Nat := bc3 (bc2 (bc1 a 85) 51) 15
theorem bc_byte : ∀ a, a < 256 → bc1 a 85 < 256 ∧ bc2 (bc1 a 85) 51 < 256 ∧ bc2 (bc1 a 85) 51 % 16 ≤ 4 ∧ bc2 (bc1 a 85) 51 / 16 ≤ 4 ∧ (a / 2 &&& 85) ≤ a ∧ bcB a = (a % 2 + a / 2 % 2 + a / 4 % 2 + a / 8 % 2) + (a / 16 % 2 + a / 32 % 2 + a / 64 % 2 + a / 128 % 2) ∧ bcB a ≤ 8 := by decide +kernel
/-- four bytes, one after another -/
theorem bc_four {n : Nat} (hn : n < 2 ^ 32) : bc3 (bc2 (bc1 n 1431655765) 858993459) 252645135 = 256 * (256 * (256 * bcB (n / 16777216) + bcB (n / 65536 % 256)) + bcB (n / 256 % 256)) + bcB (n % 256) := by
  obtain ⟨a0, ha0⟩ : ∃ z, z = n % 256 := ⟨_, rfl⟩
  obtain ⟨a1, ha1⟩ : ∃ z, z = n / 256 % 256 := ⟨_, rfl⟩
  obtain ⟨a2, ha2⟩ : ∃ z, z = n / 65536 % 256 := ⟨_, rfl⟩
  obtain ⟨a3, ha3⟩ : ∃ z, z = n / 16777216 := ⟨_, rfl⟩
  rw [← ha0, ← ha1, ← ha2, ← ha3]
  have hs : n = 256 * (256 * (256 * a3 + a2) + a1) + a0 := by omega
  have b0 : a0 < 256 := by omega
  have b1 : a1 < 256 := by omega
  have b2 : a2 < 256 := by omega
  have b3 : a3 < 256 := by omega
  obtain ⟨p0, q0, r0, s0, u0, -, -⟩ := bc_byte a0 b0
  obtain ⟨p1, q1, r1, s1, u1, -, -⟩ := bc_byte a1 b1
  obtain ⟨p2, q2, r2, s2, u2, -, -⟩ := bc_byte a2 b2
  obtain ⟨p3, q3, r3, s3, u3, -, -⟩ := bc_byte a3 b3
  have le1 : ∀ h m : Nat, h / 2 &&& m ≤ h := fun h m => Nat.le_trans Nat.and_le_left (Nat.div_le_self _ _)
  have m1 : (1431655765 : Nat) = 256 * (256 * (256 * 85 + 85) + 85) + 85 := by decide
  have m2 : (858993459 : Nat) = 256 * (256 * (256 * 51 + 51) + 51) + 51 := by decide
  have m3 : (252645135 : Nat) = 256 * (256 * (256 * 15 + 15) + 15) + 15 := by decide
  rw [hs, m1, bc_s1 b0 (le1 _ _), bc_s1 b1 (le1 _ _), bc_s1 b2 (le1 _ _)]
  rw [m2, bc_s2 p0, bc_s2 p1, bc_s2 p2]
  rw [m3, bc_s3 q0 r0 s0 (by omega), bc_s3 q1 r1 s1 (by omega), bc_s3 q2 r2 s2 (by omega)]
  rfl
theorem bc_bt (x : Int32) (i : Nat) : (if bt x i = true then 1 else 0) = x.toBitVec.toNat / 2 ^ i % 2 := by
  have e : bt x i = x.toBitVec.toNat.testBit i := by unfold bt; exact (BitVec.testBit_toNat _).symm
  rw [e, Nat.testBit_eq_decide_div_mod_eq]
  rcases Nat.mod_two_eq_zero_or_one (x.toBitVec.toNat / 2 ^ i) with h | h <;> simp [h]
theorem bc_m8 (m : Nat) : m % 256 % 2 = m % 2 ∧ m % 256 / 2 % 2 = m / 2 % 2 ∧ m % 256 / 4 % 2 = m / 4 % 2 ∧ m % 256 / 8 % 2 = m / 8 % 2 ∧ m % 256 / 16 % 2 = m / 16 % 2 ∧ m % 256 / 32 % 2 = m / 32 % 2 ∧ m % 256 / 64 % 2 = m / 64 % 2 ∧ m % 256 / 128 % 2 = m / 128 % 2 := by
  refine ⟨?_, ?_, ?_, ?_, ?_, ?_, ?_, ?_⟩ <;> omega
theorem bc_d (n a b : Nat) : n / a / b % 2 = n / (a * b) % 2 := by rw [Nat.div_div_eq_div_mul]
theorem bc_cnt (x : Int32) : bCnt x 32 = bcB (x.toBitVec.toNat % 256) + bcB (x.toBitVec.toNat / 256 % 256) + bcB (x.toBitVec.toNat / 65536 % 256) + bcB (x.toBitVec.toNat / 16777216) := by
  have hx : x.toBitVec.toNat < 2 ^ 32 := x.toBitVec.isLt
  have e : ∀ k, bCnt x (k + 1) = bCnt x k + x.toBitVec.toNat / 2 ^ k % 2 := fun k => by rw [← bc_bt]; rfl
  rw [e 31, e 30, e 29, e 28, e 27, e 26, e 25, e 24, e 23, e 22, e 21, e 20, e 19, e 18, e 17, e 16, e 15, e 14, e 13, e 12, e 11, e 10, e 9, e 8, e 7, e 6, e 5, e 4, e 3, e 2, e 1, e 0]
  generalize x.toBitVec.toNat = n at *
  obtain ⟨-, -, -, -, -, f0, -⟩ := bc_byte (n % 256) (by omega)
  obtain ⟨-, -, -, -, -, f1, -⟩ := bc_byte (n / 256 % 256) (by omega)
  obtain ⟨-, -, -, -, -, f2, -⟩ := bc_byte (n / 65536 % 256) (by omega)
  obtain ⟨-, -, -, -, -, f3, -⟩ := bc_byte (n / 16777216) (by omega)
  rw [f0, f1, f2, f3]
  obtain ⟨m0, m1, m2, m3, m4, m5, m6, m7⟩ := bc_m8 (n)
  obtain ⟨m8, m9, m10, m11, m12, m13, m14, m15⟩ := bc_m8 (n / 256)
  obtain ⟨m16, m17, m18, m19, m20, m21, m22, m23⟩ := bc_m8 (n / 65536)
  rw [m0, m1, m2, m3, m4, m5, m6, m7, m8, m9, m10, m11, m12, m13, m14, m15, m16, m17, m18, m19, m20, m21, m22, m23]
  simp only [bc_d]
  show 0 + n / 2 ^ 0 % 2 + n / 2 % 2 + n / 4 % 2 + n / 8 % 2 + n / 16 % 2 + n / 32 % 2 + n / 64 % 2 + n / 128 % 2 + n / 256 % 2 + n / 512 % 2 + n / 1024 % 2 + n / 2048 % 2 + n / 4096 % 2 + n / 8192 % 2 + n / 16384 % 2 + n / 32768 % 2 + n / 65536 % 2 + n / 131072 % 2 + n / 262144 % 2 + n / 524288 % 2 + n / 1048576 % 2 + n / 2097152 % 2 + n / 4194304 % 2 + n / 8388608 % 2 + n / 16777216 % 2 + n / 33554432 % 2 + n / 67108864 % 2 + n / 134217728 % 2 + n / 268435456 % 2 + n / 536870912 % 2 + n / 1073741824 % 2 + n / 2147483648 % 2 = _
  have z : n / 2 ^ 0 % 2 = n % 2 := by rw [Nat.pow_zero, Nat.div_one]
  rw [z]
  simp only [Nat.reduceMul]
  clear m0 m1 m2 m3 m4 m5 m6 m7 m8 m9 m10 m11 m12 m13 m14 m15 m16 m17 m18 m19 m20 m21 m22 m23 f0 f1 f2 f3 e z hx
  generalize n % 2 = b0
  generalize n / 2 % 2 = b1
  generalize n / 4 % 2 = b2
  generalize n / 8 % 2 = b3
  generalize n / 16 % 2 = b4
  generalize n / 32 % 2 = b5
  generalize n / 64 % 2 = b6
  generalize n / 128 % 2 = b7
  generalize n / 256 % 2 = b8
  generalize n / 512 % 2 = b9
  generalize n / 1024 % 2 = b10
  generalize n / 2048 % 2 = b11
  generalize n / 4096 % 2 = b12
  generalize n / 8192 % 2 = b13
  generalize n / 16384 % 2 = b14
  generalize n / 32768 % 2 = b15
  generalize n / 65536 % 2 = b16
  generalize n / 131072 % 2 = b17
  generalize n / 262144 % 2 = b18
  generalize n / 524288 % 2 = b19
  generalize n / 1048576 % 2 = b20
  generalize n / 2097152 % 2 = b21
  generalize n / 4194304 % 2 = b22
  generalize n / 8388608 % 2 = b23
  generalize n / 16777216 % 2 = b24
  generalize n / 33554432 % 2 = b25
  generalize n / 67108864 % 2 = b26
  generalize n / 134217728 % 2 = b27
  generalize n / 268435456 % 2 = b28
  generalize n / 536870912 % 2 = b29
  generalize n / 1073741824 % 2 = b30
  generalize n / 2147483648 % 2 = b31
  omega
