/-! Integer.bitCount, from the machine's numbers to the sum of bits; its contract follows in the next part. -/
abbrev bN (x : Int32) : Nat := x.toBitVec.toNat
abbrev us (x : Int32) (k : Nat) : Int32 := (x.toUInt32 >>> ((nI k).toUInt32 &&& Int32.toUInt32 31)).toInt32
theorem bN_lt (x : Int32) : bN x < 2 ^ 32 := x.toBitVec.isLt
theorem bN_inj {x y : Int32} (h : bN x = bN y) : x = y := Int32.toBitVec_inj.mp (BitVec.eq_of_toNat_eq h)
theorem bN_and (x y : Int32) : bN (x &&& y) = bN x &&& bN y := by show (x &&& y).toBitVec.toNat = _; rw [Int32.toBitVec_and, BitVec.toNat_and]
theorem bN_add {x y : Int32} (h : bN x + bN y < 2 ^ 32) : bN (x + y) = bN x + bN y := by
  show (x + y).toBitVec.toNat = _
  rw [Int32.toBitVec_add, BitVec.toNat_add, Nat.mod_eq_of_lt h]
theorem bN_sub {x y : Int32} (h : bN y ≤ bN x) : bN (x - y) = bN x - bN y := by
  show (x - y).toBitVec.toNat = _
  have h1 := bN_lt x
  have h2 := bN_lt y
  rw [Int32.toBitVec_sub, BitVec.toNat_sub]
  show (2 ^ 32 - bN y + bN x) % 2 ^ 32 = bN x - bN y
  omega
theorem us_1 (x : Int32) : bN (us x 1) = bN x / 2 := pk_ushr x (nI 1) 1 (by decide +kernel)
theorem us_2 (x : Int32) : bN (us x 2) = bN x / 4 := pk_ushr x (nI 2) 2 (by decide +kernel)
theorem us_4 (x : Int32) : bN (us x 4) = bN x / 16 := pk_ushr x (nI 4) 4 (by decide +kernel)
theorem us_8 (x : Int32) : bN (us x 8) = bN x / 256 := pk_ushr x (nI 8) 8 (by decide +kernel)
theorem us_16 (x : Int32) : bN (us x 16) = bN x / 65536 := pk_ushr x (nI 16) 16 (by decide +kernel)
theorem bc_fin {x i1 i2 i3 i4 i5 : Int32} (e1 : i1 = x - (us x 1 &&& 1431655765)) (e2 : i2 = (i1 &&& 858993459) + (us i1 2 &&& 858993459)) (e3 : i3 = (i2 + us i2 4) &&& 252645135) (e4 : i4 = i3 + us i3 8) (e5 : i5 = i4 + us i4 16) : i5 &&& nI 63 = nI (bCnt x 32) := by
  have c1 : bN 1431655765 = 1431655765 := by decide +kernel
  have c2 : bN 858993459 = 858993459 := by decide +kernel
  have c3 : bN 252645135 = 252645135 := by decide +kernel
  have h1 : bN i1 = bc1 (bN x) 1431655765 := by
    have hle : bN (us x 1 &&& 1431655765) ≤ bN x := by
      rw [bN_and, us_1]
      exact Nat.le_trans Nat.and_le_left (Nat.div_le_self _ _)
    rw [e1, bN_sub hle, bN_and, us_1, c1]
    rfl
  have h2 : bN i2 = bc2 (bN i1) 858993459 := by
    have a1 : bN (i1 &&& 858993459) ≤ 858993459 := by rw [bN_and, c2]; exact Nat.and_le_right
    have a2 : bN (us i1 2 &&& 858993459) ≤ 858993459 := by rw [bN_and, c2]; exact Nat.and_le_right
    rw [e2, bN_add (by omega), bN_and, bN_and, us_2, c2]
    rfl
  have b2 : bN i2 ≤ 1717986918 := by
    rw [h2]
    unfold bc2
    have a1 : bN i1 &&& 858993459 ≤ 858993459 := Nat.and_le_right
    have a2 : bN i1 / 4 &&& 858993459 ≤ 858993459 := Nat.and_le_right
    omega
  have h3 : bN i3 = bc3 (bN i2) 252645135 := by
    rw [e3, bN_and, bN_add (by rw [us_4]; omega), us_4, c3]
    rfl
  rw [h2, h1, bc_four (bN_lt x)] at h3
  have hx := bN_lt x
  obtain ⟨-, -, -, -, -, -, p0⟩ := bc_byte (bN x % 256) (by omega)
  obtain ⟨-, -, -, -, -, -, p1⟩ := bc_byte (bN x / 256 % 256) (by omega)
  obtain ⟨-, -, -, -, -, -, p2⟩ := bc_byte (bN x / 65536 % 256) (by omega)
  obtain ⟨-, -, -, -, -, -, p3⟩ := bc_byte (bN x / 16777216) (by omega)
  have hc : bCnt x 32 = bcB (bN x % 256) + bcB (bN x / 256 % 256) + bcB (bN x / 65536 % 256) + bcB (bN x / 16777216) := bc_cnt x
  generalize bcB (bN x % 256) = q0 at *
  generalize bcB (bN x / 256 % 256) = q1 at *
  generalize bcB (bN x / 65536 % 256) = q2 at *
  generalize bcB (bN x / 16777216) = q3 at *
  have h4 : bN i4 = bN i3 + bN i3 / 256 := by rw [e4, bN_add (by rw [us_8]; omega), us_8]
  have h5 : bN i5 = bN i4 + bN i4 / 65536 := by rw [e5, bN_add (by rw [us_16]; omega), us_16]
  apply bN_inj
  have h6 : bN (nI 63) = 2 ^ 6 - 1 := by decide +kernel
  rw [bN_and, h6, Nat.and_two_pow_sub_one_eq_mod, hc]
  have h7 : bN (nI (q0 + q1 + q2 + q3)) = q0 + q1 + q2 + q3 := pk_tn (by omega)
  rw [h7]
  have d1 : bN i3 / 256 = 65536 * q3 + 256 * q2 + q1 := by omega
  have d2 : bN i4 = 65536 * (257 * q3 + q2) + (256 * (q2 + q1) + (q1 + q0)) := by omega
  have d3 : bN i4 / 65536 = 257 * q3 + q2 := by omega
  have d4 : bN i5 = 64 * (1024 * (257 * q3 + q2) + 4 * (q2 + q1) + 4 * q3) + (q0 + q1 + q2 + q3) := by omega
  rw [d4]
  omega
