/-! NUMBERS, 2: what is positive; how great the inverse is -/
theorem cH_pos {s : Nat → Rat} (hs : ∀ k, 0 < s k) : ∀ k, 0 < cH s (k + 1) ∧ s k * cH s k ≤ cH s (k + 1)
  | 0 => by
    have h : cH s 1 = 1 := rfl
    have h0 : cH s 0 = 0 := rfl
    rw [h, h0]
    have := hs 0
    grind
  | k + 1 => by
    obtain ⟨h1, h2⟩ := cH_pos hs k
    have h3 : cH s (k + 2) = 2 * (s k + s (k + 1)) * cH s (k + 1) - s k * s k * cH s k := rfl
    have p0 := hs k
    have p1 := hs (k + 1)
    have q1 : s k * (s k * cH s k) ≤ s k * cH s (k + 1) := Rat.mul_le_mul_of_nonneg_left h2 (by grind)
    have q2 : 0 < s k * cH s (k + 1) := Rat.mul_pos p0 h1
    have q3 : 0 < s (k + 1) * cH s (k + 1) := Rat.mul_pos p1 h1
    rw [h3]
    grind
theorem cT_pos {s T : Nat → Rat} {N : Nat} (hs : ∀ k, 0 < s k) (hT : cT s N T) : ∀ d k, k + d = N → 0 < T (k + 1) ∧ s k * T (k + 2) ≤ T (k + 1)
  | 0, k, e => by
    have e : k = N := by omega
    subst e
    rw [hT.1, hT.2.1]
    grind
  | d + 1, k, e => by
    obtain ⟨h1, h2⟩ := cT_pos hs hT d (k + 1) (by omega)
    have ht := hT.2.2 k (by omega)
    have p0 := hs k
    have p1 := hs (k + 1)
    have h1 : 0 < T (k + 2) := h1
    have h2 : s (k + 1) * T (k + 3) ≤ T (k + 2) := h2
    have q1 : s (k + 1) * (s (k + 1) * T (k + 3)) ≤ s (k + 1) * T (k + 2) := Rat.mul_le_mul_of_nonneg_left h2 (by grind)
    have q2 : 0 < s k * T (k + 2) := Rat.mul_pos p0 h1
    have q3 : 0 < s (k + 1) * T (k + 2) := Rat.mul_pos p1 h1
    rw [ht]
    grind
/-- 1 and -1 by turns -/
def sgQ : Nat → Rat
  | 0 => 1
  | n + 1 => -sgQ n
theorem sgQ_sq : ∀ n, sgQ n * sgQ n = 1
  | 0 => by simp only [sgQ]; grind
  | n + 1 => by
    have := sgQ_sq n
    simp only [sgQ]
    grind
theorem sgQ_add (a : Nat) : ∀ m, sgQ (a + m) = sgQ a * sgQ m
  | 0 => by simp only [Nat.add_zero, sgQ]; grind
  | m + 1 => by
    show -sgQ (a + m) = sgQ a * -sgQ m
    rw [sgQ_add a m]
    grind
def pPr (s : Nat → Rat) (lo : Nat) : Nat → Rat
  | 0 => 1
  | m + 1 => pPr s lo m * s (lo + m)
theorem pPr_pos {s : Nat → Rat} (hs : ∀ k, 0 < s k) (lo : Nat) : ∀ m, 0 < pPr s lo m
  | 0 => by show (0 : Rat) < 1; grind
  | m + 1 => Rat.mul_pos (pPr_pos hs lo m) (hs _)
theorem nPr_sg {s : Nat → Rat} {lo : Nat} : ∀ m, nPr s lo m = sgQ m * pPr s lo m
  | 0 => by simp only [nPr, pPr, sgQ]; grind
  | m + 1 => by
    simp only [nPr, pPr, sgQ, nPr_sg m]
    grind
/-- the sizes of the inverse's entries -/
def gP (s T : Nat → Rat) (a b : Nat) : Rat := if a ≤ b then cH s a * pPr s a (b - a) * T (b + 1) else cH s b * pPr s b (a - b) * T (a + 1)
theorem gE_gP {s T : Nat → Rat} {a b : Nat} : gE s T a b = sgQ a * sgQ b * gP s T a b := by
  unfold gE gP
  split
  · rename_i h
    have e : sgQ b = sgQ a * sgQ (b - a) := by rw [← sgQ_add, show a + (b - a) = b by omega]
    have := sgQ_sq a
    rw [nPr_sg, e]
    grind
  · rename_i h
    have e : sgQ a = sgQ b * sgQ (a - b) := by rw [← sgQ_add, show b + (a - b) = a by omega]
    have := sgQ_sq b
    rw [nPr_sg, e]
    grind
theorem gP_nn {s T : Nat → Rat} {N a b : Nat} (hs : ∀ k, 0 < s k) (hT : cT s N T) (ha : 1 ≤ a) (haN : a ≤ N) (hb : 1 ≤ b) (hbN : b ≤ N) : 0 ≤ gP s T a b := by
  have h1 : ∀ k, 1 ≤ k → 0 < cH s k := fun k hk => by
    obtain ⟨j, rfl⟩ : ∃ j, k = j + 1 := ⟨k - 1, by omega⟩
    exact (cH_pos hs j).1
  have h2 : ∀ k, k ≤ N → 0 < T (k + 1) := fun k hk => (cT_pos hs hT (N - k) k (by omega)).1
  unfold gP
  split
  · exact Rat.le_of_lt (Rat.mul_pos (Rat.mul_pos (h1 a ha) (pPr_pos hs _ _)) (h2 b hbN))
  · exact Rat.le_of_lt (Rat.mul_pos (Rat.mul_pos (h1 b hb) (pPr_pos hs _ _)) (h2 a haN))
/-- within: -c .. c -/
def inQ (q c : Rat) : Prop := -c ≤ q ∧ q ≤ c
theorem inQ_add {p q a b : Rat} (h1 : inQ p a) (h2 : inQ q b) : inQ (p + q) (a + b) := by
  unfold inQ at *
  grind
theorem inQ_sub {p q a b : Rat} (h1 : inQ p a) (h2 : inQ q b) : inQ (p - q) (a + b) := by
  unfold inQ at *
  grind
theorem inQ_neg {p a : Rat} (h1 : inQ p a) : inQ (-p) a := by
  unfold inQ at *
  grind
theorem inQ_le {p a b : Rat} (h1 : inQ p a) (h : a ≤ b) : inQ p b := by
  unfold inQ at *
  grind
theorem inQ_mul {p q a b : Rat} (h1 : inQ p a) (h2 : inQ q b) : inQ (p * q) (a * b) := by
  unfold inQ at *
  obtain ⟨h1, h3⟩ := h1
  obtain ⟨h2, h4⟩ := h2
  have ha : 0 ≤ a := by grind
  have hb : 0 ≤ b := by grind
  have e1 := Rat.mul_nonneg (show 0 ≤ a - p by grind) (show 0 ≤ b + q by grind)
  have e2 := Rat.mul_nonneg (show 0 ≤ a + p by grind) (show 0 ≤ b - q by grind)
  have e3 := Rat.mul_nonneg (show 0 ≤ a - p by grind) (show 0 ≤ b - q by grind)
  have e4 := Rat.mul_nonneg (show 0 ≤ a + p by grind) (show 0 ≤ b + q by grind)
  constructor
  · grind
  · grind
theorem inQ_0 {c : Rat} (h : 0 ≤ c) : inQ 0 c := by
  unfold inQ
  grind
theorem inQ_sum {f g : Nat → Rat} : ∀ {n}, (∀ i, i < n → inQ (f i) (g i)) → inQ (sQ f n) (sQ g n)
  | 0, _ => inQ_0 (Rat.le_refl)
  | n + 1, h => inQ_add (inQ_sum (fun i hi => h i (by omega))) (h n (by omega))
theorem sg_row {p q z u v : Rat} (hz : z * z = 1) (p0 : 0 < p) (p1 : 0 < q) (hu : u = z ∨ u = 0) (hv : v = z ∨ v = 0) : p + q ≤ -z * (p * u + 2 * (p + q) * -z + q * v) := by
  have e : -z * (p * u + 2 * (p + q) * -z + q * v) = 2 * (p + q) * (z * z) - p * (z * u) - q * (z * v) := by grind
  have eu : z * u = 1 ∨ z * u = 0 := by
    rcases hu with h | h
    · left; rw [h]; exact hz
    · right; rw [h]; grind
  have ev : z * v = 1 ∨ z * v = 0 := by
    rcases hv with h | h
    · left; rw [h]; exact hz
    · right; rw [h]; grind
  rw [e, hz]
  rcases eu with h | h <;> rcases ev with h2 | h2 <;> rw [h, h2] <;> grind
/-- the inverse, times what is within R times two neighbouring spans, is within R times the determinant -/
theorem inv_in {s T r : Nat → Rat} {N a : Nat} {R : Rat} (hs : ∀ k, 0 < s k) (hT : cT s N T) (ha : 1 ≤ a) (haN : a ≤ N) (hr : ∀ j, j < N → inQ (r (j + 1)) (R * (s j + s (j + 1)))) (hR : 0 ≤ R) : inQ (sQ (fun j => gE s T a (j + 1) * r (j + 1)) N) (R * cH s (N + 1)) := by
  have hv := inv_all (s := s) (T := T) (N := N) (a := a) (v := fun k => if k = 0 ∨ N < k then 0 else sgQ k) hT (by simp) (by simp) ha haN
  have e1 : sQ (fun j => gP s T a (j + 1) * (R * (s j + s (j + 1)))) N ≤ sgQ a * R * (cH s (N + 1) * sgQ a) := by
    have e2 : cH s (N + 1) * sgQ a = sQ (fun j => gE s T a (j + 1) * avQ s (fun k => if k = 0 ∨ N < k then 0 else sgQ k) j) N := by
      rw [hv, if_neg (by omega)]
    rw [e2, ← sQ_mul]
    refine sQ_le (fun j hj => ?_)
    rw [gE_gP]
    have p := gP_nn (b := j + 1) hs hT ha haN (by omega) (by omega)
    have p0 := hs j
    have p1 := hs (j + 1)
    have q := sgQ_sq a
    have q2 := sgQ_sq j
    have hav : s j + s (j + 1) ≤ sgQ (j + 1) * avQ s (fun k => if k = 0 ∨ N < k then 0 else sgQ k) j := by
      have f1 : (if j + 1 = 0 ∨ N < j + 1 then (0 : Rat) else sgQ (j + 1)) = -sgQ j := by
        rw [if_neg (by omega)]
        rfl
      have f2 : (if j + 2 = 0 ∨ N < j + 2 then (0 : Rat) else sgQ (j + 2)) = sgQ j ∨ (if j + 2 = 0 ∨ N < j + 2 then (0 : Rat) else sgQ (j + 2)) = 0 := by
        by_cases h : N < j + 2
        · right
          rw [if_pos (Or.inr h)]
        · left
          rw [if_neg (by omega)]
          show - -sgQ j = sgQ j
          grind
      have f0 : (if j = 0 ∨ N < j then (0 : Rat) else sgQ j) = sgQ j ∨ (if j = 0 ∨ N < j then (0 : Rat) else sgQ j) = 0 := by
        by_cases h : j = 0
        · right
          rw [if_pos (Or.inl h)]
        · left
          rw [if_neg (by omega)]
      simp only [avQ, f1]
      have f3 : sgQ (j + 1) = -sgQ j := rfl
      rw [f3]
      exact sg_row q2 p0 p1 f0 f2
    have m1 : (gP s T a (j + 1) * R) * (s j + s (j + 1)) ≤ (gP s T a (j + 1) * R) * (sgQ (j + 1) * avQ s (fun k => if k = 0 ∨ N < k then 0 else sgQ k) j) := Rat.mul_le_mul_of_nonneg_left hav (Rat.mul_nonneg p hR)
    generalize avQ s (fun k => if k = 0 ∨ N < k then 0 else sgQ k) j = A at *
    have m2 : sgQ a * R * (sgQ a * sgQ (j + 1) * gP s T a (j + 1) * A) = (sgQ a * sgQ a) * ((gP s T a (j + 1) * R) * (sgQ (j + 1) * A)) := by grind
    rw [m2, q]
    grind
  have e3 : sgQ a * R * (cH s (N + 1) * sgQ a) = R * cH s (N + 1) := by
    have q := sgQ_sq a
    have : sgQ a * R * (cH s (N + 1) * sgQ a) = (sgQ a * sgQ a) * (R * cH s (N + 1)) := by grind
    rw [this, q]
    grind
  rw [e3] at e1
  refine inQ_le (inQ_sum (g := fun j => gP s T a (j + 1) * (R * (s j + s (j + 1)))) (fun j hj => ?_)) e1
  have p := gP_nn (b := j + 1) hs hT ha haN (by omega) (by omega)
  have q := sgQ_sq a
  have q2 := sgQ_sq (j + 1)
  have hx : inQ (gE s T a (j + 1)) (gP s T a (j + 1)) := by
    rw [gE_gP]
    have f : (sgQ a * sgQ (j + 1)) * (sgQ a * sgQ (j + 1)) = 1 := by
      have : (sgQ a * sgQ (j + 1)) * (sgQ a * sgQ (j + 1)) = (sgQ a * sgQ a) * (sgQ (j + 1) * sgQ (j + 1)) := by grind
      rw [this, q, q2]
      grind
    generalize sgQ a * sgQ (j + 1) = z at *
    have g : z = 1 ∨ z = -1 := by
      have : (z - 1) * (z + 1) = 0 := by grind
      rcases Rat.mul_eq_zero.mp this with h | h
      · left; grind
      · right; grind
    rcases g with g | g <;> rw [g] <;> unfold inQ <;> grind
  exact inQ_mul hx (hr j hj)
