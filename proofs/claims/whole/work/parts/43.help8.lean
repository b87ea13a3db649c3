def bitS (x : Int32) (k : Nat) : Int32 := (x >>> (nI k &&& 31)) &&& 1
def difB (x y : Int32) (k : Nat) : Bool := decide (¬ bitS x k = bitS y k)
/-- isAhead: at the first place where they differ the first has a 1 -/
def ahdB (x y : Int32) : Bool := match fstB (difB x y) 7 with
  | some k => decide (bitS x k = 1)
  | none => false
theorem ahdB_n {x y : Int32} (h : fstB (difB x y) 7 = none) : ahdB x y = false := by unfold ahdB; rw [h]
theorem ahdB_s {x y : Int32} {k : Nat} (h : fstB (difB x y) 7 = some k) : ahdB x y = decide (bitS x k = 1) := by unfold ahdB; rw [h]
