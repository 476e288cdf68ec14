theorem sh56 (x : BitVec 64) : ((x <<< 56).sshiftRight 56).toInt = x.toInt.bmod 256 := by
  rw [BitVec.toInt_sshiftRight, BitVec.toInt_shiftLeft, BitVec.toInt_eq_toNat_bmod, Int.bmod_bmod_of_dvd (by decide), Int.shiftRight_eq_div_pow, Nat.shiftLeft_eq, Int.bmod_def, Int.bmod_def]
  generalize x.toNat = a
  show (if ((a * 72057594037927936 : Nat) : Int) % 18446744073709551616 < (18446744073709551616 + 1) / 2 then _ else _) / 72057594037927936 = (if (a : Int) % 256 < (256 + 1) / 2 then _ else _)
  show (if ((a * 72057594037927936 : Nat) : Int) % 18446744073709551616 < (18446744073709551616 + 1) / 2 then ((a * 72057594037927936 : Nat) : Int) % 18446744073709551616 else ((a * 72057594037927936 : Nat) : Int) % 18446744073709551616 - 18446744073709551616) / 72057594037927936 = (if (a : Int) % 256 < (256 + 1) / 2 then (a : Int) % 256 else (a : Int) % 256 - 256)
  split <;> split <;> omega
theorem sh48 (x : BitVec 64) : ((x <<< 48).sshiftRight 48).toInt = x.toInt.bmod 65536 := by
  rw [BitVec.toInt_sshiftRight, BitVec.toInt_shiftLeft, BitVec.toInt_eq_toNat_bmod, Int.bmod_bmod_of_dvd (by decide), Int.shiftRight_eq_div_pow, Nat.shiftLeft_eq, Int.bmod_def, Int.bmod_def]
  generalize x.toNat = a
  show (if ((a * 281474976710656 : Nat) : Int) % 18446744073709551616 < (18446744073709551616 + 1) / 2 then ((a * 281474976710656 : Nat) : Int) % 18446744073709551616 else ((a * 281474976710656 : Nat) : Int) % 18446744073709551616 - 18446744073709551616) / 281474976710656 = (if (a : Int) % 65536 < (65536 + 1) / 2 then (a : Int) % 65536 else (a : Int) % 65536 - 65536)
  split <;> split <;> omega
theorem sh32 (x : BitVec 64) : ((x <<< 32).sshiftRight 32).toInt = x.toInt.bmod 4294967296 := by
  rw [BitVec.toInt_sshiftRight, BitVec.toInt_shiftLeft, BitVec.toInt_eq_toNat_bmod, Int.bmod_bmod_of_dvd (by decide), Int.shiftRight_eq_div_pow, Nat.shiftLeft_eq, Int.bmod_def, Int.bmod_def]
  generalize x.toNat = a
  show (if ((a * 4294967296 : Nat) : Int) % 18446744073709551616 < (18446744073709551616 + 1) / 2 then ((a * 4294967296 : Nat) : Int) % 18446744073709551616 else ((a * 4294967296 : Nat) : Int) % 18446744073709551616 - 18446744073709551616) / 4294967296 = (if (a : Int) % 4294967296 < (4294967296 + 1) / 2 then (a : Int) % 4294967296 else (a : Int) % 4294967296 - 4294967296)
  split <;> split <;> omega
theorem cut_put (s : Int32) (v : Int64) (h : 0 ≤ s.toInt ∧ s.toInt ≤ 3) : (v <<< ((64 - ((8 : Int32) <<< (s &&& 31))).toInt64 &&& 63)) >>> ((64 - ((8 : Int32) <<< (s &&& 31))).toInt64 &&& 63) = ctv s v := by
  have hc : s = 0 ∨ s = 1 ∨ s = 2 ∨ s = 3 := by
    rw [eq32, eq32, eq32, eq32, i0, i1, i2, i3]; omega
  rcases hc with rfl | rfl | rfl | rfl
  · have e : ((64 - ((8 : Int32) <<< ((0 : Int32) &&& 31))).toInt64 &&& 63) = 56 := by decide
    rw [e]
    show _ = v.toInt32.toInt8.toInt32.toInt64
    rw [eq64, up64, Int8.toInt_toInt32, Int32.toInt_toInt8, Int64.toInt_toInt32, Int.bmod_bmod_of_dvd (by decide), ← Int64.toInt_toBitVec, Int64.toBitVec_shiftRight, Int64.toBitVec_shiftLeft]
    exact sh56 v.toBitVec
  · have e : ((64 - ((8 : Int32) <<< ((1 : Int32) &&& 31))).toInt64 &&& 63) = 48 := by decide
    rw [e]
    show _ = v.toInt32.toInt16.toInt32.toInt64
    rw [eq64, up64, Int16.toInt_toInt32, Int32.toInt_toInt16, Int64.toInt_toInt32, Int.bmod_bmod_of_dvd (by decide), ← Int64.toInt_toBitVec, Int64.toBitVec_shiftRight, Int64.toBitVec_shiftLeft]
    exact sh48 v.toBitVec
  · have e : ((64 - ((8 : Int32) <<< ((2 : Int32) &&& 31))).toInt64 &&& 63) = 32 := by decide
    rw [e]
    show _ = v.toInt32.toInt64
    rw [eq64, up64, Int64.toInt_toInt32, ← Int64.toInt_toBitVec, Int64.toBitVec_shiftRight, Int64.toBitVec_shiftLeft]
    exact sh32 v.toBitVec
  · have e : ((64 - ((8 : Int32) <<< ((3 : Int32) &&& 31))).toInt64 &&& 63) = 0 := by decide
    rw [e]
    show _ = v
    simp
