/-! NUMBERS, 1: sums of fractions; continuants; the inverse of the matrix of three moments -/
def sQ (f : Nat → Rat) : Nat → Rat
  | 0 => 0
  | n + 1 => sQ f n + f n
theorem sQ_congr {f g : Nat → Rat} : ∀ {n : Nat}, (∀ i, i < n → f i = g i) → sQ f n = sQ g n
  | 0, _ => rfl
  | n + 1, h => by
    simp only [sQ]
    rw [sQ_congr (fun i hi => h i (by omega)), h n (by omega)]
theorem sQ_add {f g : Nat → Rat} : ∀ n, sQ (fun i => f i + g i) n = sQ f n + sQ g n
  | 0 => by simp only [sQ]; grind
  | n + 1 => by
    simp only [sQ]
    rw [sQ_add n]
    grind
theorem sQ_sub {f g : Nat → Rat} : ∀ n, sQ (fun i => f i - g i) n = sQ f n - sQ g n
  | 0 => by simp only [sQ]; grind
  | n + 1 => by
    simp only [sQ]
    rw [sQ_sub n]
    grind
theorem sQ_mul {c : Rat} {f : Nat → Rat} : ∀ n, sQ (fun i => c * f i) n = c * sQ f n
  | 0 => by simp only [sQ]; grind
  | n + 1 => by
    simp only [sQ]
    rw [sQ_mul n]
    grind
theorem sQ_zero {f : Nat → Rat} : ∀ {n}, (∀ i, i < n → f i = 0) → sQ f n = 0
  | 0, _ => rfl
  | n + 1, h => by
    simp only [sQ]
    rw [sQ_zero (fun i hi => h i (by omega)), h n (by omega)]
    grind
theorem sQ_split {f : Nat → Rat} (a : Nat) : ∀ m, sQ f (a + m) = sQ f a + sQ (fun i => f (a + i)) m
  | 0 => by simp only [Nat.add_zero, sQ]; grind
  | m + 1 => by
    show sQ f (a + m) + f (a + m) = _ + (_ + _)
    rw [sQ_split a m]
    grind
theorem sQ_le {f g : Nat → Rat} : ∀ {n}, (∀ i, i < n → f i ≤ g i) → sQ f n ≤ sQ g n
  | 0, _ => Rat.le_refl
  | n + 1, h => by
    simp only [sQ]
    have h1 := sQ_le (n := n) (f := f) (g := g) (fun i hi => h i (by omega))
    have h2 := h n (by omega)
    grind
theorem sQ_neg {f : Nat → Rat} : ∀ n, sQ (fun i => -f i) n = -sQ f n
  | 0 => by simp only [sQ]; grind
  | n + 1 => by
    simp only [sQ]
    rw [sQ_neg n]
    grind
/-- determinants of what lies ahead, moved by one -/
def cH (s : Nat → Rat) : Nat → Rat
  | 0 => 0
  | 1 => 1
  | k + 2 => 2 * (s k + s (k + 1)) * cH s (k + 1) - s k * s k * cH s k
/-- of what lies behind: what is asked of such numbers -/
def cT (s : Nat → Rat) (N : Nat) (T : Nat → Rat) : Prop := T (N + 1) = 1 ∧ T (N + 2) = 0 ∧ ∀ k, k < N → T (k + 1) = 2 * (s k + s (k + 1)) * T (k + 2) - s (k + 1) * s (k + 1) * T (k + 3)
def nPr (s : Nat → Rat) (lo : Nat) : Nat → Rat
  | 0 => 1
  | m + 1 => nPr s lo m * -(s (lo + m))
theorem nPr_left {s : Nat → Rat} {lo : Nat} : ∀ m, nPr s lo (m + 1) = -(s lo) * nPr s (lo + 1) m
  | 0 => by simp only [nPr, Nat.add_zero]; grind
  | m + 1 => by
    have h1 := nPr_left (s := s) (lo := lo) m
    have h2 : nPr s lo (m + 1 + 1) = nPr s lo (m + 1) * -(s (lo + (m + 1))) := rfl
    have h3 : nPr s (lo + 1) (m + 1) = nPr s (lo + 1) m * -(s (lo + 1 + m)) := rfl
    rw [h2, h1, h3, show lo + (m + 1) = lo + 1 + m by omega]
    grind
/-- the matrix times a vector: row j + 1 -/
def avQ (s v : Nat → Rat) (j : Nat) : Rat := s j * v j + 2 * (s j + s (j + 1)) * v (j + 1) + s (j + 1) * v (j + 2)
/-- entries of the inverse, times the determinant -/
def gE (s T : Nat → Rat) (a b : Nat) : Rat := if a ≤ b then cH s a * nPr s a (b - a) * T (b + 1) else cH s b * nPr s b (a - b) * T (a + 1)
theorem inv_left {s v : Nat → Rat} {a : Nat} (h0 : v 0 = 0) : ∀ m, m ≤ a → sQ (fun j => cH s (j + 1) * nPr s (j + 1) (a - (j + 1)) * avQ s v j) m = nPr s m (a - m) * (cH s m * s m * v (m + 1) + cH s (m + 1) * v m)
  | 0, _ => by
    simp only [sQ, cH, h0]
    grind
  | m + 1, hm => by
    have ih := inv_left (s := s) (v := v) (a := a) h0 m (by omega)
    obtain ⟨r, hr⟩ : ∃ r, a - m = r + 1 := ⟨a - m - 1, by omega⟩
    have hr2 : a - (m + 1) = r := by omega
    have h1 := nPr_left (s := s) (lo := m) r
    have h3 : cH s (m + 2) = 2 * (s m + s (m + 1)) * cH s (m + 1) - s m * s m * cH s m := rfl
    show sQ _ m + _ = nPr s (m + 1) (a - (m + 1)) * (cH s (m + 1) * s (m + 1) * v (m + 2) + cH s (m + 2) * v (m + 1))
    rw [ih, hr, hr2, h1, h3]
    simp only [avQ]
    grind
theorem inv_right {s v T : Nat → Rat} {a N : Nat} (hT : cT s N T) : ∀ j, a + j ≤ N → sQ (fun i => nPr s a (i + 1) * T (a + i + 2) * avQ s v (a + i)) j = nPr s a 1 * (T (a + 2) * s a * v a + T (a + 1) * v (a + 1)) - nPr s a (j + 1) * (T (a + j + 2) * s (a + j) * v (a + j) + T (a + j + 1) * v (a + j + 1))
  | 0, _ => by
    simp only [sQ, Nat.add_zero]
    grind
  | j + 1, hj => by
    have ih := inv_right (v := v) (a := a) hT j (by omega)
    have ht := hT.2.2 (a + j) (by omega)
    have h1 : nPr s a (j + 1 + 1) = nPr s a (j + 1) * -(s (a + (j + 1))) := rfl
    show sQ _ j + _ = _
    rw [ih, h1]
    simp only [avQ, ← Nat.add_assoc]
    rw [show a + j + 1 + 2 = a + j + 3 by omega, show a + j + 1 + 1 = a + j + 2 by omega]
    generalize nPr s a (j + 1) = p at *
    generalize T (a + j + 1) = t1 at *
    generalize T (a + j + 2) = t2 at *
    generalize T (a + j + 3) = t3 at *
    subst ht
    grind
theorem inv_det {s T : Nat → Rat} {N : Nat} (hT : cT s N T) : ∀ d k, k + d = N → cH s (k + 1) * T (k + 1) - s k * s k * cH s k * T (k + 2) = cH s (N + 1)
  | 0, k, e => by
    have e : k = N := by omega
    subst e
    rw [hT.1, hT.2.1]
    grind
  | d + 1, k, e => by
    have ih := inv_det hT d (k + 1) (by omega)
    have ht := hT.2.2 k (by omega)
    have h3 : cH s (k + 2) = 2 * (s k + s (k + 1)) * cH s (k + 1) - s k * s k * cH s k := rfl
    rw [← ih, ht, show k + 1 + 1 = k + 2 from rfl, show k + 1 + 2 = k + 3 from rfl, h3]
    grind
/-- the inverse, times the matrix times v, is the determinant times v -/
theorem inv_all {s v T : Nat → Rat} {N a : Nat} (hT : cT s N T) (h0 : v 0 = 0) (h1 : v (N + 1) = 0) (ha : 1 ≤ a) (haN : a ≤ N) : sQ (fun j => gE s T a (j + 1) * avQ s v j) N = cH s (N + 1) * v a := by
  obtain ⟨m, rfl⟩ : ∃ m, N = a + m := ⟨N - a, by omega⟩
  rw [sQ_split]
  have e1 : sQ (fun j => gE s T a (j + 1) * avQ s v j) a = T (a + 1) * sQ (fun j => cH s (j + 1) * nPr s (j + 1) (a - (j + 1)) * avQ s v j) a := by
    rw [← sQ_mul]
    refine sQ_congr (fun j hj => ?_)
    have : gE s T a (j + 1) = cH s (j + 1) * nPr s (j + 1) (a - (j + 1)) * T (a + 1) := by
      unfold gE
      by_cases q : a ≤ j + 1
      · have : a = j + 1 := by omega
        subst this
        rw [if_pos (Nat.le_refl _)]
      · rw [if_neg q]
    rw [this]
    grind
  have e2 : sQ (fun i => gE s T a (a + i + 1) * avQ s v (a + i)) m = cH s a * sQ (fun i => nPr s a (i + 1) * T (a + i + 2) * avQ s v (a + i)) m := by
    rw [← sQ_mul]
    refine sQ_congr (fun i hi => ?_)
    have : gE s T a (a + i + 1) = cH s a * nPr s a (i + 1) * T (a + i + 2) := by
      unfold gE
      rw [if_pos (by omega), show a + i + 1 - a = i + 1 by omega]
    rw [this]
    grind
  rw [e1, e2, inv_left h0 a (Nat.le_refl _), inv_right hT m (Nat.le_refl _), Nat.sub_self]
  have h2 := inv_det hT m a (by omega)
  have h3 : nPr s a 0 = 1 := rfl
  have h4 : nPr s a 1 = 1 * -(s (a + 0)) := rfl
  rw [h3, h4, hT.2.1, h1]
  simp only [Nat.add_zero]
  grind
