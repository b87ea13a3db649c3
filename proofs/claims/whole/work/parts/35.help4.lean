def selM (c : Int32) (k : Nat) : Bool := decide ((c >>> (nI k &&& 31)) &&& 1 = 1)
/-- the chosen ones of k candidates -/
def chI (I : IM) (m : Nat) (c : Int32) (k : Nat) : IM := fun a j => if a = m + 11 then lyP (selM c) (I (m + 20)) (I (m + 11)) k j else if a = m + 12 then lyP (selM c) (I (m + 21)) (I (m + 12)) k j else if a = m ∧ j = 19 then nI (cntS (selM c) k) else I a j
theorem chI_0 {I : IM} {m : Nat} {c : Int32} : u2 I m 19 0 = chI I m c 0 := by
  funext a j
  unfold chI u2
  by_cases h1 : a = m + 11
  · subst h1
    simp [lyP]
  · by_cases h2 : a = m + 12
    · subst h2
      simp [lyP]
    · rw [if_neg h1, if_neg h2]
      rfl
theorem chI_c {I : IM} {m k : Nat} {c : Int32} : chI I m c k m 19 = nI (cntS (selM c) k) := by simp [chI]
theorem chI_o {I : IM} {m k a j : Nat} {c : Int32} (h1 : a ≠ m + 11) (h2 : a ≠ m + 12) (h3 : a ≠ m ∨ j ≠ 19) : chI I m c k a j = I a j := by
  unfold chI
  rw [if_neg h1, if_neg h2, if_neg (by omega)]
theorem chI_n {I : IM} {m k : Nat} {c : Int32} (h : ¬ selM c k = true) : chI I m c k = chI I m c (k + 1) := by
  funext a j
  unfold chI
  simp only [lyP, cntS, if_neg h]
theorem chI_s {I : IM} {m k : Nat} {c p v : Int32} (h : selM c k = true) (hp : p = I (m + 20) k) (hv : v = I (m + 21) k) : u2 (u2 (u2 (chI I m c k) (m + 11) (cntS (selM c) k) p) (m + 12) (cntS (selM c) k) v) m 19 (nI (cntS (selM c) k + 1)) = chI I m c (k + 1) := by
  subst hp; subst hv
  funext a j
  by_cases h0 : a = m ∧ j = 19
  · obtain ⟨rfl, rfl⟩ := h0
    rw [u2_s, chI_c]
    simp only [cntS, if_pos h]
  · have e1 : ∀ (g : IM) (x : Int32), u2 g m 19 x a j = g a j := fun g x => by unfold u2; rw [if_neg h0]
    rw [e1]
    by_cases h2 : a = m + 12
    · subst h2
      simp [u2, chI, lyP, upd, h]
    · rw [u2_n1 h2]
      by_cases h1 : a = m + 11
      · subst h1
        simp [u2, chI, lyP, upd, h]
      · rw [u2_n1 h1]
        unfold chI
        rw [if_neg h1, if_neg h2, if_neg h0, if_neg h1, if_neg h2, if_neg h0]
/-- the moment of what hangs over an end -/
def hngF (arm : Nat → Int64) (w : Nat → Int32) : Nat → Int64
  | 0 => 0
  | p + 1 => hngF arm w p - (if 0 < (arm p).toInt then (w p).toInt64 * arm p else 0)
