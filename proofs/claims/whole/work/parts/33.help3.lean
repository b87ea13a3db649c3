def ushI (x : Int32) (k : Int32) : Int32 := (x.toUInt32 >>> (k.toUInt32 &&& Int32.toUInt32 31)).toInt32
def bcA (x : Int32) : Int32 := x - (ushI x 1 &&& 1431655765)
def bcB (a : Int32) : Int32 := (a &&& 858993459) + (ushI a 2 &&& 858993459)
def bcC (b : Int32) : Int32 := (b + ushI b 4) &&& 252645135
def bcD (c : Int32) : Int32 := c + ushI c 8
def bcE (d : Int32) : Int32 := d + ushI d 16
/-- Integer.bitCount -/
def bcI (x : Int32) : Int32 := bcE (bcD (bcC (bcB (bcA x)))) &&& 63
/-- how many of the lowest seven bits are set -/
def popN (k : Nat) : Nat := (List.range 7).foldl (fun a j => a + k / 2 ^ j % 2) 0
theorem bcI_pop : ∀ k, k < 128 → bcI (nI k) = nI (popN k) := by decide +kernel
/-- of two numbers' lowest seven bits: is the lowest that differs set in the first -/
def sizM (x : Int32) : Nat → Int32
  | 0 => 0
  | k + 1 => sizM x k + ((x >>> (nI k &&& 31)) &&& 1)
def hngT (xs0 : Int32) (w : Nat → Int32) (p : Nat) : Int64 := if 0 < (xs0 - nI p).toInt64.toInt then (w p).toInt64 * (xs0 - nI p).toInt64 else 0
