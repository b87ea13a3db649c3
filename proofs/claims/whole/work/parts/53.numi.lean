/-! NUMBERS, 9: the sizes of determinants, by counting through all spans -/
def cHI (s : Nat → Int) : Nat → Int
  | 0 => 0
  | 1 => 1
  | k + 2 => 2 * (s k + s (k + 1)) * cHI s (k + 1) - s k * s k * cHI s k
def prI (s : Nat → Int) : Nat → Int
  | 0 => 1
  | k + 1 => prI s k * s k
theorem cHI_cast (s : Nat → Int) : ∀ k, cH (fun j => (s j : Rat)) k = ((cHI s k : Int) : Rat)
  | 0 => rfl
  | 1 => rfl
  | k + 2 => by
    show 2 * ((s k : Rat) + s (k + 1)) * cH _ (k + 1) - (s k : Rat) * s k * cH _ k = ((2 * (s k + s (k + 1)) * cHI s (k + 1) - s k * s k * cHI s k : Int) : Rat)
    rw [cHI_cast s (k + 1), cHI_cast s k]
    simp only [Rat.intCast_sub, Rat.intCast_mul, Rat.intCast_add]
    rfl
theorem prI_cast (s : Nat → Int) : ∀ k, prQ (fun j => (s j : Rat)) k = ((prI s k : Int) : Rat)
  | 0 => rfl
  | k + 1 => by
    show prQ _ k * (s k : Rat) = ((prI s k * s k : Int) : Rat)
    rw [prI_cast s k, Rat.intCast_mul]
def goodE (b s0 W : Int) : Bool := decide (b ≤ 35784) && decide (W ≤ 81) && decide (b * W * W * s0 ≤ 204472320) && decide (b * W * W * s0 * s0 ≤ 480411648)
def chkE : Nat → Nat → Int → Int → Int → Int → Int → Bool
  | 0, _, _, b, _, s0, W => goodE b s0 W
  | f + 1, rem, a, b, l, s0, W => goodE b s0 W && (List.range rem).all (fun t => chkE f (rem - (t + 1)) b (2 * (l + (t + 1 : Nat)) * b - l * l * a) (t + 1 : Nat) s0 (W * (t + 1 : Nat)))
theorem chkE_all : (List.range 12).all (fun t => chkE 5 (12 - (t + 1)) 0 1 (t + 1 : Nat) (t + 1 : Nat) (1 * (t + 1 : Nat))) = true := by decide +kernel
def smI (s : Nat → Int) (k : Nat) : Nat → Int
  | 0 => 0
  | m + 1 => smI s k m + s (k + m)
theorem smI_left {s : Nat → Int} {k : Nat} : ∀ m, smI s k (m + 1) = s k + smI s (k + 1) m
  | 0 => by simp [smI]
  | m + 1 => by
    have h := smI_left (s := s) (k := k) m
    show smI s k (m + 1) + s (k + (m + 1)) = s k + (smI s (k + 1) m + s (k + 1 + m))
    rw [h, show k + (m + 1) = k + 1 + m by omega]
    omega
theorem smI_nn {s : Nat → Int} {k : Nat} (hs : ∀ k, 1 ≤ s k) : ∀ m, 0 ≤ smI s k m
  | 0 => Int.le_refl 0
  | m + 1 => by
    have := smI_nn (k := k) hs m
    have := hs (k + m)
    show 0 ≤ smI s k m + s (k + m)
    omega
theorem chkE_ok {s : Nat → Int} (hs : ∀ k, 1 ≤ s k) : ∀ (f k rem m : Nat), m ≤ f → smI s (k + 1) m ≤ (rem : Int) → chkE f rem (cHI s k) (cHI s (k + 1)) (s k) (s 0) (prI s (k + 1)) = true → goodE (cHI s (k + m + 1)) (s 0) (prI s (k + m + 1)) = true
  | 0, k, rem, m, hm, _, h => by
    have : m = 0 := by omega
    subst this
    exact h
  | f + 1, k, rem, m, hm, hr, h => by
    simp only [chkE, Bool.and_eq_true] at h
    cases m with
    | zero => exact h.1
    | succ m =>
      rw [smI_left] at hr
      have h1 := hs (k + 1)
      have h2 := smI_nn (k := k + 1 + 1) hs m
      obtain ⟨t, ht⟩ : ∃ t : Nat, s (k + 1) = ((t + 1 : Nat) : Int) := ⟨(s (k + 1) - 1).toNat, by omega⟩
      have h3 := List.all_eq_true.mp h.2 t (by rw [List.mem_range]; omega)
      rw [← ht] at h3
      have e : k + (m + 1) + 1 = k + 1 + m + 1 := by omega
      rw [e]
      exact chkE_ok hs f (k + 1) (rem - (t + 1)) m (by omega) (by omega) h3
theorem cH_size {s : Nat → Int} {N : Nat} (hs : ∀ k, 1 ≤ s k) (hN : N ≤ 5) (h12 : smI s 0 (N + 1) ≤ 12) : goodE (cHI s (N + 1)) (s 0) (prI s (N + 1)) = true := by
  rw [smI_left] at h12
  have h1 := hs 0
  have h2 := smI_nn (k := 0 + 1) hs N
  obtain ⟨t, ht⟩ : ∃ t : Nat, s 0 = ((t + 1 : Nat) : Int) := ⟨(s 0 - 1).toNat, by omega⟩
  have h3 := List.all_eq_true.mp chkE_all t (by rw [List.mem_range]; omega)
  rw [← ht] at h3
  have := chkE_ok hs 5 0 (12 - (t + 1)) N hN (by omega) h3
  rwa [Nat.zero_add] at this
/-- the divisor of the class's loads -/
def DQ (s : Nat → Rat) (N : Nat) : Rat := cH s (N + 1) * prQ s (N + 1) * prQ s (N + 1) * s 0
/-- spans out of places -/
def spP (pl : Nat → Nat) (N k : Nat) : Nat := if k ≤ N then pl (k + 1) - pl k else 1
def spR (pl : Nat → Nat) (N : Nat) : Nat → Rat := fun k => (spP pl N k : Rat)
/-- places of N + 2 supports -/
def isP (pl : Nat → Nat) (N : Nat) : Prop := N ≤ 5 ∧ pl (N + 1) ≤ 12 ∧ ∀ k, k ≤ N → pl k < pl (k + 1)
section NJ
variable {pl : Nat → Nat} {N : Nat}
theorem spP_pos (h : isP pl N) (k : Nat) : 1 ≤ spP pl N k := by
  unfold spP
  split
  · rename_i c
    have := h.2.2 k c
    omega
  · omega
theorem sp_one (h : isP pl N) (k : Nat) : 1 ≤ spR pl N k := by
  have h1 := spP_pos h k
  have : ((1 : Int) : Rat) ≤ ((spP pl N k : Int) : Rat) := by
    rw [Rat.intCast_le_intCast]
    omega
  exact this
theorem isP_X (h : isP pl N) : isX (fun k => (pl k : Rat)) (spR pl N) N := by
  refine ⟨fun k => ?_, fun k hk => ?_⟩
  · have := sp_one h k
    grind
  · have h1 := h.2.2 k hk
    have e : pl (k + 1) = pl k + spP pl N k := by
      unfold spP
      rw [if_pos hk]
      omega
    show (pl (k + 1) : Rat) = (pl k : Rat) + (spP pl N k : Rat)
    rw [e]
    exact Rat.natCast_add _ _
theorem isP_sum (h : isP pl N) : ∀ m, m ≤ N + 1 → (pl 0 : Int) + smI (fun k => (spP pl N k : Int)) 0 m = pl m
  | 0, _ => by simp [smI]
  | m + 1, hm => by
    have ih := isP_sum h m (by omega)
    have h1 := h.2.2 m (by omega)
    have e : spP pl N m = pl (m + 1) - pl m := if_pos (by omega)
    show (pl 0 : Int) + (smI _ 0 m + (spP pl N (0 + m) : Int)) = _
    rw [Nat.zero_add, e]
    omega
theorem D_size (h : isP pl N) : cH (spR pl N) (N + 1) ≤ 35784 ∧ prQ (spR pl N) (N + 1) ≤ 81 ∧ DQ (spR pl N) N ≤ 204472320 ∧ DQ (spR pl N) N * spR pl N 0 ≤ 480411648 := by
  have h1 := isP_sum h (N + 1) (Nat.le_refl _)
  have h2 := h.2.1
  have g := cH_size (s := fun k => (spP pl N k : Int)) (N := N) (fun k => by have := spP_pos h k; omega) h.1 (by omega)
  unfold goodE at g
  simp only [Bool.and_eq_true, decide_eq_true_eq] at g
  obtain ⟨⟨⟨g1, g2⟩, g3⟩, g4⟩ := g
  have e1 : cH (spR pl N) (N + 1) = ((cHI (fun k => (spP pl N k : Int)) (N + 1) : Int) : Rat) := cHI_cast (fun k => (spP pl N k : Int)) (N + 1)
  have e2 : prQ (spR pl N) (N + 1) = ((prI (fun k => (spP pl N k : Int)) (N + 1) : Int) : Rat) := prI_cast (fun k => (spP pl N k : Int)) (N + 1)
  have e3 : spR pl N 0 = ((spP pl N 0 : Int) : Rat) := rfl
  unfold DQ
  rw [e1, e2, e3]
  generalize cHI (fun k => (spP pl N k : Int)) (N + 1) = b at *
  generalize prI (fun k => (spP pl N k : Int)) (N + 1) = W at *
  generalize (spP pl N 0 : Int) = z at *
  simp only [← Rat.intCast_mul]
  refine ⟨?_, ?_, ?_, ?_⟩
  · exact Rat.intCast_le_intCast.mpr g1
  · exact Rat.intCast_le_intCast.mpr g2
  · exact Rat.intCast_le_intCast.mpr g3
  · exact Rat.intCast_le_intCast.mpr g4
theorem prQ_pos {s : Nat → Rat} (hs : ∀ k, 1 ≤ s k) : ∀ k, 1 ≤ prQ s k
  | 0 => Rat.le_refl
  | k + 1 => by
    have h1 := prQ_pos hs k
    have h2 := hs k
    have := Rat.mul_le_mul_of_nonneg_left h2 (show 0 ≤ prQ s k by grind)
    show 1 ≤ prQ s k * s k
    grind
theorem D_pos (h : isP pl N) : 0 < DQ (spR pl N) N := by
  have h1 := (cH_pos (isP_X h).1 N).1
  have h2 := prQ_pos (sp_one h) (N + 1)
  have h3 := sp_one h 0
  unfold DQ
  exact Rat.mul_pos (Rat.mul_pos (Rat.mul_pos h1 (by grind)) (by grind)) (by grind)
theorem pr_div (S : Nat → Nat) {k : Nat} : ∀ m, k < m → ∃ t : Int, prQ (fun j => (S j : Rat)) m = (S k : Rat) * t
  | 0, h => by omega
  | m + 1, h => by
    by_cases e : k = m
    · subst e
      refine ⟨prI (fun j => (S j : Int)) k, ?_⟩
      have := prI_cast (fun j => (S j : Int)) k
      show prQ _ k * (S k : Rat) = _
      rw [show prQ (fun j => (S j : Rat)) k = _ from this]
      exact Rat.mul_comm _ _
    · obtain ⟨t, ht⟩ := pr_div S (k := k) m (by omega)
      refine ⟨t * (S m : Int), ?_⟩
      show prQ _ m * (S m : Rat) = _
      rw [ht, Rat.intCast_mul]
      have : ((S m : Int) : Rat) = (S m : Rat) := rfl
      grind
end NJ
