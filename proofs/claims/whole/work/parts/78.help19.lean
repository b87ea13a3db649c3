theorem one_in {b : Nat} : ∀ k, inQ (oneH b k) 1 := fun k => by
  unfold oneH inQ
  split <;> grind
theorem zer_in : ∀ k, inQ (zerH k) 0 := fun k => by
  unfold zerH inQ
  grind
