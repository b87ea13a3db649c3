theorem go_q2 {x y : Int64} {pl : Nat → Nat} {h w : Nat → Rat} {F : Rat} {n i : Nat} (hP : isP pl n) (hi : 0 < i) (hn : i ≤ n) (g : RF x y (goB pl h w F n i (w (pl i) + sQ (outF pl w n i) 13) + ((-1) * pT1 pl h w F n (i - 1)) + ((-1) * (sQ (pfF w (pl (i - 1)) (pl (i - 1 + 1))) (pl (i - 1 + 1)) / spR pl n (i - 1))))) : RF x y (ldP pl h w F n i) := by
  obtain ⟨k, rfl⟩ : ∃ k, i = k + 1 := ⟨i - 1, by omega⟩
  rw [← go_2 hP hn]
  exact g
theorem go_q3 {x y : Int64} {pl : Nat → Nat} {h w : Nat → Rat} {F : Rat} {n i : Nat} (hP : isP pl n) (hi : i = n + 1) (g : RF x y (w (pl i) + sQ (outF pl w n i) 13 + ((-1) * pT1 pl h w F n (i - 1)) + ((-1) * (sQ (pfF w (pl (i - 1)) (pl (i - 1 + 1))) (pl (i - 1 + 1)) / spR pl n (i - 1))))) : RF x y (ldP pl h w F n i) := by
  subst hi
  rw [← go_3 hP]
  exact g
