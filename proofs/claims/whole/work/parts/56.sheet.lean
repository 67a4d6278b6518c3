theorem a_toInt (z : Int32) : z.toInt = if 2 * z.toBitVec.toNat < 4294967296 then (z.toBitVec.toNat : Int) else (z.toBitVec.toNat : Int) - 4294967296 := by
  have := BitVec.toInt_eq_toNat_cond z.toBitVec
  exact this
theorem a_i8 (x : Int32) : (x <<< ((24 : Int32) &&& 31)) >>> ((24 : Int32) &&& 31) = x.toInt8.toInt32 := by
  apply Int32.toInt_inj.mp
  rw [pk_shr _ _ 24 (by decide), Int8.toInt_toInt32, Int32.toInt_toInt8, Int.shiftRight_eq_div_pow, a_toInt, pk_shl x _ 24 (by decide), a_toInt x, Int.bmod_def]
  have hn := x.toBitVec.isLt
  generalize x.toBitVec.toNat = n at *
  omega
theorem a_i16 (x : Int32) : (x <<< ((16 : Int32) &&& 31)) >>> ((16 : Int32) &&& 31) = x.toInt16.toInt32 := by
  apply Int32.toInt_inj.mp
  rw [pk_shr _ _ 16 (by decide), Int16.toInt_toInt32, Int32.toInt_toInt16, Int.shiftRight_eq_div_pow, a_toInt, pk_shl x _ 16 (by decide), a_toInt x, Int.bmod_def]
  have hn := x.toBitVec.isLt
  generalize x.toBitVec.toNat = n at *
  omega
