theorem k_lt2x {x : Int32} {n : Nat} (h : x = nI n) (hn : n ≤ 6) (h6 : ¬ n < 6) : ¬ x < 6 := by
  rw [h, Int32.lt_iff_toInt_lt, nI_toInt (by omega)]
  show ¬ (n : Int) < 6
  omega
