/-! the model's right sides -/
def lftX (I : IM) (m i : Nat) : Int64 := (I (m + 11) i - I (m + 11) (i - 1)).toInt64
def aftX (I : IM) (m i : Nat) : Int64 := (I (m + 11) (i + 1) - I (m + 11) i).toInt64
def rgtA (I : IM) (m i p : Nat) : Bool := decide (I (m + 11) (i - 1) < nI p ∧ nI p < I (m + 11) i)
def rgtB (I : IM) (m i p : Nat) : Bool := decide (I (m + 11) i < nI p ∧ nI p < I (m + 11) (i + 1))
def rgtU (I : IM) (m i p : Nat) : Int64 := (I (m + 13) p).toInt64 * (nI p - I (m + 11) (i - 1)).toInt64 * (lftX I m i - (nI p - I (m + 11) (i - 1)).toInt64) * (lftX I m i + (nI p - I (m + 11) (i - 1)).toInt64) * (27720 / lftX I m i)
def rgtV (I : IM) (m i p : Nat) : Int64 := (I (m + 13) p).toInt64 * (I (m + 11) (i + 1) - nI p).toInt64 * (aftX I m i - (I (m + 11) (i + 1) - nI p).toInt64) * (aftX I m i + (I (m + 11) (i + 1) - nI p).toInt64) * (27720 / aftX I m i)
def rgt0 (I : IM) (m i : Nat) : Int64 := 6 * (I m 7).toInt64 * ((I (m + 12) (i + 1) - I (m + 12) i).toInt64 * (27720 / aftX I m i) - (I (m + 12) i - I (m + 12) (i - 1)).toInt64 * (27720 / lftX I m i))
def rgt1 (I : IM) (m i p : Nat) (s : Int64) : Int64 := if rgtA I m i p = true then s - rgtU I m i p else s
def rgt2 (I : IM) (m i p : Nat) (s : Int64) : Int64 := if rgtB I m i p = true then s - rgtV I m i p else s
def rgtF (I : IM) (m i : Nat) : Nat → Int64
  | 0 => rgt0 I m i
  | p + 1 => rgt2 I m i p (rgt1 I m i p (rgtF I m i p))
theorem rgt1_t {I : IM} {m i p : Nat} {s : Int64} (h : rgtA I m i p = true) : rgt1 I m i p s = s - rgtU I m i p := if_pos h
theorem rgt1_f {I : IM} {m i p : Nat} {s : Int64} (h : rgtA I m i p = false) : rgt1 I m i p s = s := if_neg (by rw [h]; decide)
theorem rgt2_t {I : IM} {m i p : Nat} {s : Int64} (h : rgtB I m i p = true) : rgt2 I m i p s = s - rgtV I m i p := if_pos h
theorem rgt2_f {I : IM} {m i p : Nat} {s : Int64} (h : rgtB I m i p = false) : rgt2 I m i p s = s := if_neg (by rw [h]; decide)
