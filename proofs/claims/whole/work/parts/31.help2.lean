/-! bearings put on the rest (cell 45): k of them, from fr on, as they stand in the STATE of the row at 8 + s -/
def pbP (I : IM) (fr n0 : Nat) : Nat → Nat → Int32
  | 0 => I 58
  | k + 1 => upd (pbP I fr n0 k) (n0 + k) (I 2 (fr + k))
def pbS (I : IM) (s fr n0 : Nat) (q : Nat → Nat) : Nat → Nat → Int32
  | 0 => I 59
  | k + 1 => upd (pbS I s fr n0 q k) (n0 + k) (I 3 (fr + k) + I (8 + s) (q (fr + k)))
def pbI (I : IM) (s fr n0 : Nat) (q : Nat → Nat) (k : Nat) : IM := fun a j => if a = 58 then pbP I fr n0 k j else if a = 59 then pbS I s fr n0 q k j else if a = 45 ∧ j = 1 then nI (n0 + k) else I a j
theorem pbI_0 {I : IM} {s fr n0 : Nat} {q : Nat → Nat} (h : I 45 1 = nI n0) : I = pbI I s fr n0 q 0 := by
  funext a j
  unfold pbI
  split
  · rename_i e; rw [e]; rfl
  · split
    · rename_i e; rw [e]; rfl
    · split
      · rename_i e; rw [e.1, e.2, h]; rfl
      · rfl
theorem pbI_c {I : IM} {s fr n0 k : Nat} {q : Nat → Nat} : pbI I s fr n0 q k 45 1 = nI (n0 + k) := by simp [pbI]
theorem pbI_o {I : IM} {s fr n0 k a j : Nat} {q : Nat → Nat} (h1 : a ≠ 58) (h2 : a ≠ 59) (h3 : a ≠ 45) : pbI I s fr n0 q k a j = I a j := by simp [pbI, h1, h2, h3]
theorem pbI_s {I : IM} {s fr n0 k : Nat} {q : Nat → Nat} {p v : Int32} (hp : p = I 2 (fr + k)) (hv : v = I 3 (fr + k) + I (8 + s) (q (fr + k))) : u2 (u2 (u2 (pbI I s fr n0 q k) 58 (n0 + k) p) 59 (n0 + k) v) 45 1 (nI (n0 + k + 1)) = pbI I s fr n0 q (k + 1) := by
  subst hp; subst hv
  funext a j
  by_cases h1 : a = 45 ∧ j = 1
  · obtain ⟨rfl, rfl⟩ := h1
    rw [u2_s, pbI_c]
    rfl
  · have e1 : ∀ (g : IM) (x : Int32), u2 g 45 1 x a j = g a j := fun g x => by unfold u2; rw [if_neg h1]
    rw [e1]
    by_cases h2 : a = 59
    · subst h2
      simp [u2, pbI, pbS, upd]
    · rw [u2_n1 h2]
      by_cases h3 : a = 58
      · subst h3
        simp [u2, pbI, pbP, upd]
      · rw [u2_n1 h3]
        unfold pbI
        rw [if_neg h3, if_neg h2, if_neg h1, if_neg h3, if_neg h2, if_neg h1]
