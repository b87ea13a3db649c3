/-! parts of a shaft; a table's heights -/
def cN (s : Nat → Bool) : Nat → Nat
  | 0 => 0
  | n + 1 => (if s 0 = true then 1 else 0) + 2 * cN (fun k => s (k + 1)) n
theorem cN_lt : ∀ n (s : Nat → Bool), cN s n < 2 ^ n
  | 0, _ => Nat.zero_lt_one
  | n + 1, s => by
    have ih := cN_lt n (fun k => s (k + 1))
    simp only [cN, Nat.pow_succ]
    split <;> omega
theorem cN_b : ∀ n (s : Nat → Bool) k, k < n → decide (cN s n / 2 ^ k % 2 = 1) = s k
  | n + 1, s, 0, _ => by
    simp only [cN, Nat.pow_zero, Nat.div_one]
    cases e : s 0
    · rw [if_neg (by decide)]
      exact decide_eq_false (by omega)
    · rw [if_pos rfl]
      exact decide_eq_true (by omega)
  | n + 1, s, k + 1, h => by
    have ih := cN_b n (fun k => s (k + 1)) k (by omega)
    have e : cN s (n + 1) / 2 ^ (k + 1) = cN (fun k => s (k + 1)) n / 2 ^ k := by
      rw [Nat.pow_succ', ← Nat.div_div_eq_div_mul]
      congr 1
      simp only [cN]
      split <;> omega
    rw [e]
    exact ih
theorem bit_at7 : ∀ n, n ≤ 7 → ∀ (s : Nat → Bool) b, b < n → selM (bitF s n) b = s b := by
  have h : ∀ n, n < 8 → ∀ c, c < 2 ^ n → ∀ b, b < n → selM (bitF (fun k => decide (c / 2 ^ k % 2 = 1)) n) b = decide (c / 2 ^ b % 2 = 1) := by decide +kernel
  intro n hn s b hb
  have e := bitF_congr n (fun k hk => cN_b n s k hk)
  rw [← e, h n (by omega) (cN s n) (cN_lt n s) b hb]
  exact cN_b n s b hb
def iptP (sh : Sh) (I : IM) (L : LM) (R : RM) (m : Nat) (A : LA) (st fr to : Nat) : PPost := fun ret sh' I' L' R' => sh' = sh ∧ R' = R ∧ frMI m I I' ∧ frML m L L' ∧ ((¬ 2 ≤ cntS (gsB A fr to) (aN A) ∧ ret = some (.int 0)) ∨ (2 ≤ cntS (gsB A fr to) (aN A) ∧ ret = some (.int 1) ∧ SolM I' m (cntS (gsB A fr to) (aN A) - 2) (lyN (gsB A fr to) (aQ A) (aN A)) (lyQ (gsB A fr to) (hgt A st) (aN A)) (wCut A fr to) (stf A) ∧ loF L' m (cntS (gsB A fr to) (aN A) - 2) (lyN (gsB A fr to) (aQ A) (aN A)) (lyQ (gsB A fr to) (hgt A st) (aN A)) (wCut A fr to) (stf A)))
/-- weights of a part -/
theorem wc_in {A : LA} {fr to r : Nat} {x : Int32} (hx : x.toInt = aW A r) (h : fr ≤ r ∧ r < to) : (x.toInt : Rat) = wCut A fr to r := by
  unfold wCut
  rw [if_pos h, hx]
  rfl
theorem wc_out {A : LA} {fr to r : Nat} (h : ¬ (fr ≤ r ∧ r < to)) : ((0 : Int32).toInt : Rat) = wCut A fr to r := by
  unfold wCut
  rw [if_neg h]
  rfl
theorem CnM_p {I I' : IM} {m n : Nat} {q : Nat → Nat} {hh w w' : Nat → Rat} {F : Rat} (h : CnM I m n q hh w F) (f : ∀ a j, a ≠ m + 13 → I' a j = I a j) (g : ∀ r, r < 13 → ((I' (m + 13) r).toInt : Rat) = w' r) : CnM I' m n q hh w' F := by
  obtain ⟨a1, a2, a3, a4, a5⟩ := h
  refine ⟨?_, fun k hk => ?_, fun k hk => ?_, g, ?_⟩
  · rw [f m 32 (by omega)]; exact a1
  · rw [f _ _ (by omega)]; exact a2 k hk
  · rw [f _ _ (by omega)]; exact a3 k hk
  · rw [f m 7 (by omega)]; exact a5
theorem sol_th {I I' : IM} {m N : Nat} {pl : Nat → Nat} {h w h' w' : Nat → Rat} {F : Rat} (hS : SolM I m N pl h w F) (f : ∀ a j, a ≠ m + 13 → a ≠ m + 12 → I' a j = I a j) (g : ∀ r, r < 13 → ((I' (m + 13) r).toInt : Rat) = w' r) (g2 : ∀ k, k < N + 2 → ((I' (m + 12) k).toInt : Rat) = h' k ∧ -1000 ≤ (I' (m + 12) k).toInt ∧ (I' (m + 12) k).toInt ≤ 1000) : SolM I' m N pl h' w' F := by
  obtain ⟨a1, a2, a3, a4, a5⟩ := hS
  refine ⟨?_, fun k hk => ?_, g2, g, ?_⟩
  · rw [f m 19 (by omega) (by omega)]; exact a1
  · rw [f _ _ (by omega) (by omega)]; exact a2 k hk
  · rw [f m 7 (by omega) (by omega)]; exact a5
theorem ch_all {I : IM} {m n : Nat} {q : Nat → Nat} {hh w : Nat → Rat} {F : Rat} {c : Int32} (h : CnM I m n q hh w F) (hs : ∀ k, k < n → selM c k = true) (h2 : 2 ≤ n) : SolM (chI I m c n) m (n - 2) (lyN allS q n) (lyQ allS hh n) w F := by
  have := ch_sol2 (c := c) (s := allS) h hs (by rw [all_c]; exact h2)
  rw [all_c] at this
  exact this
theorem lyQ_all {f : Nat → Rat} {n k : Nat} (hk : k < n) : lyQ allS f n k = f k := by
  have := lyQ_at (s := allS) (f := f) (b := k) rfl n hk
  rw [all_c] at this
  exact this
theorem wc_00 {A : LA} {r : Nat} {x : Int32} (hx : x = 0) : (x.toInt : Rat) = wCut A 0 0 r := by
  subst hx
  exact wc_out (by omega)
theorem one_ok {x : Int32} {i b : Nat} (hx : x = if i = b then 1 else 0) : (x.toInt : Rat) = oneH b i ∧ -1000 ≤ x.toInt ∧ x.toInt ≤ 1000 := by
  subst hx
  unfold oneH
  split
  · exact ⟨rfl, by decide, by decide⟩
  · exact ⟨rfl, by decide, by decide⟩
theorem zer_ok {x : Int32} {i : Nat} (hx : x = 0) : (x.toInt : Rat) = zerH i ∧ -1000 ≤ x.toInt ∧ x.toInt ≤ 1000 := by
  subst hx
  exact ⟨rfl, by decide, by decide⟩
theorem frMI_13 {m : Nat} {I I1 I2 : IM} (h : frMI m I I1) (f : ∀ a j, a ≠ m + 13 → I2 a j = I1 a j) : frMI m I I2 := fun a k c1 c2 c3 c4 c5 c6 => (f a k c4).trans (h a k c1 c2 c3 c4 c5 c6)
theorem frMI_1213 {m : Nat} {I I1 I2 : IM} (h : frMI m I I1) (f : ∀ a j, a ≠ m + 13 → a ≠ m + 12 → I2 a j = I1 a j) : frMI m I I2 := fun a k c1 c2 c3 c4 c5 c6 => (f a k c4 c3).trans (h a k c1 c2 c3 c4 c5 c6)
