/-- the facts of a Reader at cell b whose text is the row at t -/
def ReadF (sh : Sh) (R : RM) (b t : Nat) : Prop := sh[b]? = some (.inl 4) ∧ R b 0 = some (b + 1) ∧ LineF sh R (b + 1) ∧ R b 1 = some t ∧ sh[t]? = some (.inr (.byte, 120)) ∧ t ≠ b
def nxt (f : Nat → Int32) (a T : Nat) : Int32 := if a < T then f a else -1
/-- behind blanks -/
def skp (f : Nat → Int32) (T : Nat) : Nat → Nat → Nat
  | 0, a => a
  | n + 1, a => if a < T ∧ f a = 32 then skp f T n (a + 1) else a
def skB (f : Nat → Int32) (a T : Nat) : Nat := skp f T (T - a) a
theorem skB_go {f : Nat → Int32} {a T : Nat} (h : a < T) (h2 : f a = 32) : skB f a T = skB f (a + 1) T := by
  unfold skB
  obtain ⟨k, hk⟩ : ∃ k, T - a = k + 1 := ⟨T - a - 1, by omega⟩
  have hk2 : T - (a + 1) = k := by omega
  rw [hk, hk2]
  show (if a < T ∧ f a = 32 then _ else _) = _
  rw [if_pos ⟨h, h2⟩]
theorem skB_st {f : Nat → Int32} {a T : Nat} (h : ¬ (a < T ∧ f a = 32)) : skB f a T = a := by
  unfold skB
  cases T - a with
  | zero => rfl
  | succ k => exact if_neg h
theorem skp_le {f : Nat → Int32} {T : Nat} : ∀ n a, a ≤ T → a ≤ skp f T n a ∧ skp f T n a ≤ T
  | 0, a, h => ⟨Nat.le_refl _, h⟩
  | n + 1, a, h => by
    show a ≤ (if a < T ∧ f a = 32 then _ else _) ∧ (if a < T ∧ f a = 32 then _ else _) ≤ T
    split
    · rename_i q
      have := skp_le (f := f) (T := T) n (a + 1) (by omega)
      omega
    · exact ⟨Nat.le_refl _, h⟩
theorem u2_self {I : IM} {b k : Nat} {v : Int32} (h : I b k = v) : I = u2 I b k v := by
  subst h
  funext a j
  unfold u2
  split
  · rename_i e; rw [e.1, e.2]
  · rfl
