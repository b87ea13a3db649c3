theorem sum_end {sh : Sh} {I : IM} {L L3 L' : LM} {R : RM} {m D : Nat} {v : Rat} (f : frF m L L3) (h : PF L3 m D v) (e : L' = u2 (u2 L3 m 30 (L3 m 17)) m 31 (u2 L3 m 30 (L3 m 17) m 18)) : sumP sh I L R m D v none sh I L' R := by
  subst e
  refine ⟨rfl, rfl, rfl, rfl, fun a k q => ?_, ?_, h.2⟩
  · unfold u2
    rw [if_neg (by omega), if_neg (by omega)]
    exact f a k (by omega)
  · rw [u2_n2 (by decide), u2_s, u2_s, u2_n2 (by decide)]
    exact h.1
