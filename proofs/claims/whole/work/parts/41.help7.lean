theorem skB_le {f : Nat → Int32} {a T : Nat} (h : a ≤ T) : a ≤ skB f a T ∧ skB f a T ≤ T := skp_le _ a h
/-- a number's digits: where they end, what they tell (no more than 1000) -/
def numV (v c : Int32) : Int32 := if 10 * v + c - 48 < 1000 then 10 * v + c - 48 else 1000
def numR (f : Nat → Int32) (T : Nat) : Nat → Nat → Int32 → Nat × Int32
  | 0, a, v => (a, v)
  | n + 1, a, v => if a < T ∧ isW (f a) 48 57 = true then numR f T n (a + 1) (numV v (f a)) else (a, v)
def numB (f : Nat → Int32) (T a : Nat) (v : Int32) : Nat × Int32 := numR f T (T - a) a v
theorem numB_go {f : Nat → Int32} {a T : Nat} {v : Int32} (h : a < T) (h2 : isW (f a) 48 57 = true) : numB f T a v = numB f T (a + 1) (numV v (f a)) := by
  unfold numB
  obtain ⟨k, hk⟩ : ∃ k, T - a = k + 1 := ⟨T - a - 1, by omega⟩
  have hk2 : T - (a + 1) = k := by omega
  rw [hk, hk2]
  show (if a < T ∧ isW (f a) 48 57 = true then _ else _) = _
  rw [if_pos ⟨h, h2⟩]
theorem numB_st {f : Nat → Int32} {a T : Nat} {v : Int32} (h : ¬ (a < T ∧ isW (f a) 48 57 = true)) : numB f T a v = (a, v) := by
  unfold numB
  cases T - a with
  | zero => rfl
  | succ k => exact if_neg h
theorem u2_mid {α : Type} {I : Nat → Nat → α} {b : Nat} {x y z : α} : u2 (u2 (u2 I b 3 x) b 4 y) b 3 z = u2 (u2 I b 3 z) b 4 y := by
  funext a j
  by_cases h : a = b
  · subst h
    by_cases h3 : j = 3
    · subst h3
      simp [u2]
    · by_cases h4 : j = 4
      · subst h4
        simp [u2]
      · simp [u2, h3, h4]
  · simp [u2, h]
