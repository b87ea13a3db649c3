/-! become's frame -/
theorem be_fr {L : LM} {b : Nat} {x z : Int64} : ∀ a k, a ≠ b → beL L b x z a k = L a k := fun a k h => by
  unfold beL
  rw [u2_n1 h, u2_n1 h]
theorem be_frL {L : LM} {x z : Int64} : frBL L (beL L 71 x z) := fun a k h => be_fr a k (by omega)
theorem be_frR {L : LM} {x z : Int64} : frBL L (beL L 72 x z) := fun a k h => be_fr a k (by omega)
