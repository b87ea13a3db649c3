def outF (pl : Nat → Nat) (w : Nat → Rat) (n i p : Nat) : Rat := if (i = 0 ∧ p < pl 0) ∨ (i = n + 1 ∧ pl i < p) then w p else 0
def atF (pl : Nat → Nat) (w : Nat → Rat) (i p : Nat) : Rat := if p = pl i then w p else 0
def pbG (pl : Nat → Nat) (w : Nat → Rat) (n i p : Nat) : Rat := if i ≤ n ∧ pl i < p ∧ p < pl (i + 1) then w p * ((pl (i + 1) : Rat) - p) / spR pl n i else 0
def pfG (pl : Nat → Nat) (w : Nat → Rat) (n i p : Nat) : Rat := if 0 < i ∧ pl (i - 1) < p ∧ p < pl i then w p * ((p : Rat) - pl (i - 1)) / spR pl n (i - 1) else 0
theorem hat_s {pl : Nat → Nat} {w : Nat → Rat} {n i p : Nat} (hP : isP pl n) (hi : i ≤ n + 1) : w p * hatQ (xR' pl) (spR pl n) n i p = atF pl w i p + outF pl w n i p + pbG pl w n i p + pfG pl w n i p := by
  have c_le : ∀ a b : Nat, ((a : Rat) ≤ (b : Rat)) ↔ a ≤ b := fun a b => ⟨fun g => by
    rcases Nat.lt_or_ge b a with c | c
    · have := cast_lt c
      grind
    · exact c, cast_le⟩
  have hup : ∀ j, j ≤ n → pl j < pl (j + 1) := fun j hj => hP.2.2 j hj
  have hx : ∀ j, j ≤ n → (pl (j + 1) : Rat) = (pl j : Rat) + spR pl n j := fun j hj => (isP_X hP).2 j hj
  have hn : ∀ j, spR pl n j ≠ 0 := fun j => by have := sp_one hP j; grind
  unfold hatQ rdQ
  simp only [c_le]
  unfold atF outF pbG pfG
  rcases Nat.lt_trichotomy p (pl i) with c | c | c
  · rw [if_neg (show ¬ p = pl i by omega), if_neg (show ¬ (i ≤ n ∧ pl i < p ∧ p < pl (i + 1)) by omega), if_pos (show p ≤ pl i by omega)]
    by_cases e0 : i = 0
    · subst e0
      rw [if_pos rfl, if_pos (Or.inl ⟨rfl, c⟩), if_neg (show ¬ (0 < 0 ∧ pl (0 - 1) < p ∧ p < pl 0) by omega)]
      split <;> grind
    · have h1 := hx (i - 1) (by omega)
      have h2 := hn (i - 1)
      have h3 := hup (i - 1) (by omega)
      rw [show i - 1 + 1 = i by omega] at h1 h3
      rw [if_neg e0, if_neg (show ¬ (i = 0 ∧ p < pl 0 ∨ i = n + 1 ∧ pl i < p) by omega), show i - 1 + 1 = i by omega, if_neg (show ¬ pl i ≤ p by omega)]
      by_cases d : p ≤ pl (i - 1)
      · rw [if_pos d, if_neg (show ¬ (0 < i ∧ pl (i - 1) < p ∧ p < pl i) by omega)]
        split <;> grind
      · rw [if_neg d, if_pos (show 0 < i ∧ pl (i - 1) < p ∧ p < pl i by omega)]
        split <;> grind
  · subst c
    rw [if_pos rfl, if_neg (show ¬ (i = 0 ∧ pl i < pl 0 ∨ i = n + 1 ∧ pl i < pl i) by
      rintro (⟨e, q⟩ | ⟨e, q⟩)
      · rw [e] at q; omega
      · omega), if_neg (show ¬ (i ≤ n ∧ pl i < pl i ∧ pl i < pl (i + 1)) by omega), if_neg (show ¬ (0 < i ∧ pl (i - 1) < pl i ∧ pl i < pl i) by omega), if_pos (Nat.le_refl _)]
    by_cases e0 : i = 0
    · rw [if_pos e0]
      split <;> grind
    · have h3 := hup (i - 1) (by omega)
      rw [show i - 1 + 1 = i by omega] at h3
      rw [if_neg e0, show i - 1 + 1 = i by omega, if_neg (show ¬ pl i ≤ pl (i - 1) by omega), if_pos (Nat.le_refl _)]
      split <;> grind
  · rw [if_neg (show ¬ p = pl i by omega), if_neg (show ¬ (0 < i ∧ pl (i - 1) < p ∧ p < pl i) by omega), if_neg (show ¬ p ≤ pl i by omega)]
    have hB : (if i = 0 then (0 : Rat) else if p ≤ pl (i - 1) then 1 else if pl (i - 1 + 1) ≤ p then 0 else ((xR' pl (i - 1 + 1)) - (p : Rat)) / spR pl n (i - 1)) = 0 := by
      split
      · rfl
      · have h3 := hup (i - 1) (by omega)
        rw [show i - 1 + 1 = i by omega] at *
        rw [if_neg (by omega), if_pos (by omega)]
    have e00 : ¬ (i = 0 ∧ p < pl 0) := by
      rintro ⟨e, q⟩
      rw [e] at c
      omega
    by_cases e1 : i ≤ n
    · have h1 := hx i e1
      have h2 := hn i
      rw [if_neg (show ¬ (i = 0 ∧ p < pl 0 ∨ i = n + 1 ∧ pl i < p) by omega), if_pos e1]
      by_cases d : pl (i + 1) ≤ p
      · rw [if_pos d, if_neg (show ¬ (i ≤ n ∧ pl i < p ∧ p < pl (i + 1)) by omega)]
        rw [hB]
        grind
      · rw [if_neg d, if_pos (show i ≤ n ∧ pl i < p ∧ p < pl (i + 1) by omega)]
        rw [hB]
        grind
    · rw [if_pos (show i = 0 ∧ p < pl 0 ∨ i = n + 1 ∧ pl i < p by omega), if_neg e1, if_neg (show ¬ (i ≤ n ∧ pl i < p ∧ p < pl (i + 1)) by omega)]
      rw [hB]
      grind
