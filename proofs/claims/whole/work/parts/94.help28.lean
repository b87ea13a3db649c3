/-! the planner (cell 61): margins kept of a set -/
section KMS
variable {I I2 : IM} {L L2 : LM} {j K fr i n : Nat} {s : Nat → Bool} {m : Nat → Rat}
/-- behind i bearings -/
def kmS (I I2 : IM) (L L2 : LM) (j K fr i : Nat) (s : Nat → Bool) (m : Nat → Rat) : Prop := I2 64 j = bitF s i ∧ (∀ a k, (a ≠ 64 ∨ k ≠ j) → I2 a k = I a k) ∧ (∀ a k, (a ≠ 65 ∨ k ≠ j) → (a ≠ K ∨ k < fr ∨ fr + i ≤ k) → L2 a k = L a k) ∧ L2 65 j = L 46 4 ∧ ∀ b, b < i → RI (L2 K (fr + b)) (m b)
theorem km_0 (hK : K = 66 ∨ K = 67) : kmS I (u2 I 64 j 0) L (u2 L 65 j (L 46 4)) j K fr 0 s m := by
  refine ⟨u2_s, fun a k c => ?_, fun a k c _ => ?_, u2_s, fun b hb => absurd hb (Nat.not_lt_zero _)⟩
  · unfold u2
    rw [if_neg (by omega)]
  · unfold u2
    rw [if_neg (by omega)]
theorem km_s0 {x : Int64} (hK : K = 66 ∨ K = 67) (h : kmS I I2 L L2 j K fr i s m) (hs : s i = false) (hx : RI x (m i)) : kmS I I2 L (u2 L2 K (fr + i) x) j K fr (i + 1) s m := by
  obtain ⟨h1, h2, h3, h4, h5⟩ := h
  refine ⟨?_, h2, fun a k c d => ?_, ?_, fun b hb => ?_⟩
  · simp only [bitF]
    rw [if_neg (by rw [hs]; decide)]
    exact h1
  · unfold u2
    rw [if_neg (by omega)]
    exact h3 a k c (by omega)
  · rw [u2_n1 (by omega)]
    exact h4
  · by_cases e : b = i
    · rw [e, u2_s]
      exact hx
    · rw [u2_n2 (by omega)]
      exact h5 b (by omega)
theorem km_s1 {x : Int64} {y : Int32} (hK : K = 66 ∨ K = 67) (h : kmS I I2 L L2 j K fr i s m) (hs : s i = true) (hx : RI x (m i)) (hy : y = nI i) : kmS I (u2 I2 64 j (I2 64 j ||| (1 <<< (y &&& 31)))) L (u2 L2 K (fr + i) x) j K fr (i + 1) s m := by
  obtain ⟨h1, h2, h3, h4, h5⟩ := h
  refine ⟨?_, fun a k c => ?_, fun a k c d => ?_, ?_, fun b hb => ?_⟩
  · simp only [bitF]
    rw [if_pos hs, u2_s, h1, hy]
  · unfold u2
    rw [if_neg (by omega)]
    exact h2 a k c
  · unfold u2
    rw [if_neg (by omega)]
    exact h3 a k c (by omega)
  · rw [u2_n1 (by omega)]
    exact h4
  · by_cases e : b = i
    · rw [e, u2_s]
      exact hx
    · rw [u2_n2 (by omega)]
      exact h5 b (by omega)
theorem km_rest {q : Nat → Nat} {hh w : Nat → Rat} {F : Rat} (hK : K = 66 ∨ K = 67) (h : kmS I I2 L L2 j K fr i s m) (hS : RestS I L 45 n s q hh w F) : RestS I2 L2 45 n s q hh w F := RestS_fr hS (fun a k h1 h2 => h.2.1 a k (by omega)) (fun a k h1 h2 => h.2.2.1 a k (by omega) (by omega))
end KMS
def kmP (sh : Sh) (I : IM) (L : LM) (R : RM) (j K fr n : Nat) (s : Nat → Bool) (m : Nat → Rat) : PPost := fun ret sh' I' L' R' => ret = none ∧ sh' = sh ∧ R' = R ∧ kmS I I' L L' j K fr n s m
/-- what the planner holds: sets, members, divisors; gains; margins in a STATE -/
abbrev sN (n j : Nat) : Nat → Bool := selC (nI (ordN n j)) n
def zerW (_ : Nat) : Rat := 0
def PSet (I : IM) (n : Nat) : Prop := I 61 6 = nI (ordK n) ∧ ∀ j, j < ordK n → I 63 j = nI (ordN n j)
def PMem (I : IM) (L : LM) (q : Nat → Nat) (n J : Nat) : Prop := ∀ j, j < J → I 64 j = bitF (sN n j) n ∧ RI (L 65 j) (DQ (spR (lyN (sN n j) q n) (cntS (sN n j) n - 2)) (cntS (sN n j) n - 2))
/-- gains of the sets ahead of J by one more of bearing k -/
def PGk (L : LM) (q : Nat → Nat) (F : Rat) (n k J : Nat) : Prop := ∀ j, j < J → ∀ b, b < n → RI (L 67 ((j * 4 + k) * 4 + b)) (mgQ (sN n j) q (oneH k) zerW F n b)
def PBs (L : LM) (q : Nat → Nat) (hh w : Nat → Rat) (F : Rat) (n st J : Nat) : Prop := ∀ j, j < J → ∀ b, b < n → RI (L 66 ((j * 4 + st) * 4 + b)) (mgQ (sN n j) q hh w F n b)
theorem sN_2 {n j : Nat} (h4 : n ≤ 4) (hj : j < ordK n) : 2 ≤ cntS (sN n j) n := by
  obtain ⟨h1, h2, _⟩ := ord_ok n h4
  have := h2 j hj
  show 2 ≤ cntS (selC (nI (ordN n j)) n) n
  rw [pop_cnt n (by omega) _ this.2]
  exact this.1
