theorem k_lt2r {x : Int32} {n : Nat} (h : x = nI n) (h6 : n < 6) : x < 6 := by
  rw [h, Int32.lt_iff_toInt_lt, nI_toInt (by omega)]
  show (n : Int) < 6
  omega
theorem nI_negI {n : Nat} (h : n < 2 ^ 31) : (-(nI n)).toInt = -(n : Int) := by
  rw [Int32.toInt_neg, nI_toInt h, Int.bmod_eq_of_le] <;> omega
