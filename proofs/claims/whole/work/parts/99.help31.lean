/-! the planner's sets -/
theorem ord_room : ∀ n, n ≤ 4 → ∀ sz, 2 ≤ sz → sz ≤ n → ∀ c, c < 2 ^ n - 1 → popN (2 ^ n - 1 - c) = sz → (ordL n (sz - 2) ++ desL n sz c).length < 11 := by
  have h : ∀ n, n < 5 → ∀ sz, sz < 5 → ∀ c, c < 16 → (2 ≤ sz ∧ sz ≤ n ∧ c < 2 ^ n - 1 ∧ popN (2 ^ n - 1 - c) = sz) → (ordL n (sz - 2) ++ desL n sz c).length < 11 := by decide +kernel
  intro n hn sz h1 h2 c hc hp
  have : 2 ^ n ≤ 16 := by
    have : 2 ^ n ≤ 2 ^ 4 := Nat.pow_le_pow_right (by decide) hn
    omega
  exact h n (by omega) sz (by omega) c (by omega) ⟨h1, h2, hc, hp⟩
def PS1 (I : IM) (V : List Nat) : Prop := I 61 6 = nI V.length ∧ ∀ j, j < V.length → I 63 j = nI (V.getD j 0)
def frS (I I' : IM) : Prop := ∀ a k, (a ≠ 61 ∨ k ≠ 6) → a ≠ 63 → I' a k = I a k
theorem frS_0 {I : IM} : frS I I := fun _ _ _ _ => rfl
theorem ps1_0 {I : IM} : PS1 (u2 I 61 6 0) [] ∧ frS I (u2 I 61 6 0) := by
  refine ⟨⟨u2_s, fun j hj => absurd hj (Nat.not_lt_zero _)⟩, fun a k c _ => ?_⟩
  unfold u2
  rw [if_neg (by omega)]
theorem ps1_s {I : IM} {V : List Nat} {x : Nat} (h : PS1 I V) {v : Int32} (hv : v = nI x) : PS1 (u2 (u2 I 63 V.length v) 61 6 (I 61 6 + 1)) (V ++ [x]) := by
  obtain ⟨h1, h2⟩ := h
  refine ⟨?_, fun j hj => ?_⟩
  · rw [u2_s, h1, List.length_append]
    exact nI_1 _
  · rw [u2_n1 (by decide)]
    rw [List.length_append] at hj
    have hj : j < V.length + 1 := hj
    by_cases c : j = V.length
    · subst c
      rw [u2_s, hv]
      congr 1
      simp [List.getD_eq_getElem?_getD]
    · rw [u2_n2 c, h2 j (by omega)]
      congr 1
      simp [List.getD_eq_getElem?_getD, List.getElem?_append_left (show j < V.length by omega)]
theorem frS_s {I I' : IM} {x y : Int32} {k : Nat} (h : frS I I') : frS I (u2 (u2 I' 63 k x) 61 6 y) := fun a j c1 c2 => by
  rw [← h a j c1 c2]
  unfold u2
  rw [if_neg (by omega), if_neg (by omega)]
theorem CLm_S {I I' : IM} {A : LA} (h : CLm I A) (f : frS I I') : CLm I' A := CLm_fr h (fun a k h1 h2 => f a k (by omega) (by omega))
theorem des_s {n sz c : Nat} (h : popN (2 ^ n - 1 - c) = sz) : desL n sz (c + 1) = desL n sz c ++ [2 ^ n - 1 - c] := by
  show (if popN (2 ^ n - 1 - c) = sz then _ else _) = _
  rw [if_pos h]
theorem des_n {n sz c : Nat} (h : ¬ popN (2 ^ n - 1 - c) = sz) : desL n sz (c + 1) = desL n sz c := by
  show (if popN (2 ^ n - 1 - c) = sz then _ else _) = _
  rw [if_neg h]
def frT (I I' : IM) : Prop := ∀ a k, (a < 45 ∨ 60 < a) → (a ≠ 61 ∨ k ≠ 6) → a ≠ 63 → a ≠ 64 → I' a k = I a k
def frTL (L L' : LM) : Prop := ∀ a k, (a < 46 ∨ 57 < a) → a ≠ 65 → a ≠ 67 → L' a k = L a k
theorem frT_S {I I' : IM} (h : frS I I') : frT I I' := fun a k _ c2 c3 _ => h a k c2 c3
theorem frT_Q {I I' I'' : IM} (h1 : frT I I') (h2 : frQ I' I'') : frT I I'' := fun a k c1 c2 c3 c4 => (h2 a k c1 c4).trans (h1 a k c1 c2 c3 c4)
theorem frTL_Q {L L' L'' : LM} {k : Nat} (h1 : frTL L L') (h2 : frQL 67 k L' L'') : frTL L L'' := fun a k c1 c2 c3 => (h2 a k c1 c2 (Or.inl c3)).trans (h1 a k c1 c2 c3)
theorem frTL_0 {L : LM} : frTL L L := fun _ _ _ _ _ => rfl
theorem CLm_T {I I' : IM} {A : LA} (h : CLm I A) (f : frT I I') : CLm I' A := CLm_fr h (fun a k h1 h2 => f a k (by omega) (by omega) (by omega) (by omega))
/-- what prepareSets leaves -/
def pnP (sh : Sh) (I : IM) (L : LM) (R : RM) (q : Nat → Nat) (F : Rat) (n : Nat) : PPost := fun ret sh' I' L' R' => ret = none ∧ sh' = sh ∧ R' = R ∧ frT I I' ∧ frTL L L' ∧ PSet I' n ∧ PMem I' L' q n (ordK n) ∧ ∀ k, k < n → PGk L' q F n k (ordK n)
