/-! NUMBERS, 8: longs that stand for whole fractions, modulo 2^64 -/
def RI (x : Int64) (q : Rat) : Prop := ∃ z : Int, q = (z : Rat) ∧ x = Int64.ofInt z
theorem RI_add {x y : Int64} {p q : Rat} (h1 : RI x p) (h2 : RI y q) : RI (x + y) (p + q) := by
  obtain ⟨a, rfl, rfl⟩ := h1
  obtain ⟨b, rfl, rfl⟩ := h2
  exact ⟨a + b, (Rat.intCast_add a b).symm, (Int64.ofInt_add a b).symm⟩
theorem RI_sub {x y : Int64} {p q : Rat} (h1 : RI x p) (h2 : RI y q) : RI (x - y) (p - q) := by
  obtain ⟨a, rfl, rfl⟩ := h1
  obtain ⟨b, rfl, rfl⟩ := h2
  exact ⟨a - b, (Rat.intCast_sub a b).symm, (Int64.ofInt_sub a b).symm⟩
theorem RI_mul {x y : Int64} {p q : Rat} (h1 : RI x p) (h2 : RI y q) : RI (x * y) (p * q) := by
  obtain ⟨a, rfl, rfl⟩ := h1
  obtain ⟨b, rfl, rfl⟩ := h2
  exact ⟨a * b, (Rat.intCast_mul a b).symm, (Int64.ofInt_mul a b).symm⟩
theorem RI_neg {x : Int64} {p : Rat} (h1 : RI x p) : RI (-x) (-p) := by
  obtain ⟨a, rfl, rfl⟩ := h1
  exact ⟨-a, (Rat.intCast_neg a).symm, (Int64.ofInt_neg a).symm⟩
theorem RI_0 : RI 0 0 := ⟨0, rfl, rfl⟩
theorem RI_1 : RI 1 1 := ⟨1, rfl, rfl⟩
theorem RI_2 : RI 2 2 := ⟨2, rfl, rfl⟩
theorem RI_3 : RI 3 3 := ⟨3, rfl, rfl⟩
theorem RI_6 : RI 6 6 := ⟨6, rfl, rfl⟩
theorem RI_10 : RI 10 10 := ⟨10, rfl, rfl⟩
theorem RI_1000 : RI (-1000) (-1000) := ⟨-1000, rfl, rfl⟩
theorem RI_eq {x : Int64} {p q : Rat} (h : RI x p) (e : p = q) : RI x q := e ▸ h
theorem RI_32 (x : Int32) : RI x.toInt64 (x.toInt : Rat) := ⟨x.toInt, rfl, (Int64.ofInt_int32ToInt x).symm⟩
theorem RI_64 (x : Int64) : RI x (x.toInt : Rat) := ⟨x.toInt, rfl, (Int64.ofInt_toInt x).symm⟩
theorem RI_nI {k : Nat} (h : k < 2 ^ 31) : RI (nI k).toInt64 (k : Rat) := by
  have := RI_32 (nI k)
  rw [nI_toInt h] at this
  exact this
theorem RI_get {x : Int64} {q : Rat} (h : RI x q) (hq : inQ q 9223372036854775807) : (x.toInt : Rat) = q := by
  obtain ⟨a, rfl, rfl⟩ := h
  obtain ⟨h1, h2⟩ := hq
  have h1 : ((-9223372036854775807 : Int) : Rat) ≤ (a : Rat) := h1
  have h2 : (a : Rat) ≤ ((9223372036854775807 : Int) : Rat) := h2
  rw [Rat.intCast_le_intCast] at h1 h2
  rw [Int64.toInt_ofInt_of_le (by omega) (by omega)]
theorem RI_cut {x y : Int64} {p q : Rat} {t : Int} (h1 : RI x p) (h2 : RI y q) (hp : inQ p 9223372036854775807) (hq : 0 < q) (hq2 : q ≤ 12) (ht : p = q * t) : RI (cutL x y) (p / q) := by
  obtain ⟨a, rfl, rfl⟩ := h1
  obtain ⟨b, rfl, rfl⟩ := h2
  obtain ⟨g1, g2⟩ := hp
  have g1 : ((-9223372036854775807 : Int) : Rat) ≤ (a : Rat) := g1
  have g2 : (a : Rat) ≤ ((9223372036854775807 : Int) : Rat) := g2
  have g3 : ((0 : Int) : Rat) < (b : Rat) := hq
  have g4 : (b : Rat) ≤ ((12 : Int) : Rat) := hq2
  rw [Rat.intCast_le_intCast] at g1 g2 g4
  rw [Rat.intCast_lt_intCast] at g3
  have ht : a = b * t := by
    rw [← Rat.intCast_mul] at ht
    exact Rat.intCast_inj.mp ht
  have e : a.tdiv b = t := by
    rw [ht]
    exact Int.mul_tdiv_cancel_left t (by omega)
  have hb : ¬ Int64.ofInt b = 0 := by
    intro c
    have := congrArg Int64.toInt c
    rw [Int64.toInt_ofInt_of_le (by omega) (by omega)] at this
    have z : (0 : Int64).toInt = 0 := rfl
    omega
  refine ⟨t, ?_, ?_⟩
  · rw [ht, Rat.intCast_mul]
    have hn : (b : Rat) ≠ 0 := by grind
    grind
  · unfold cutL
    rw [if_neg hb, ← Int64.ofInt_tdiv (by show (-9223372036854775808 : Int) ≤ a; omega) (by show a ≤ (9223372036854775807 : Int); omega) (by show (-9223372036854775808 : Int) ≤ b; omega) (by show b ≤ (9223372036854775807 : Int); omega), e]
/-- tails -/
def bhQ (s : Nat → Rat) (N : Nat) : Nat → Rat
  | 0 => 0
  | 1 => 1
  | m + 2 => 2 * (s (N - 1 - m) + s (N - m)) * bhQ s N (m + 1) - s (N - m) * s (N - m) * bhQ s N m
def tlQ (s : Nat → Rat) (N k : Nat) : Rat := bhQ s N (N + 2 - k)
theorem tl_ok (s : Nat → Rat) (N : Nat) : cT s N (tlQ s N) := by
  refine ⟨?_, ?_, fun k hk => ?_⟩
  · unfold tlQ
    rw [show N + 2 - (N + 1) = 1 by omega]
    rfl
  · unfold tlQ
    rw [Nat.sub_self]
    rfl
  · unfold tlQ
    obtain ⟨m, hm⟩ : ∃ m, N = k + m + 1 := ⟨N - k - 1, by omega⟩
    have e1 : N + 2 - (k + 1) = m + 2 := by omega
    have e2 : N + 2 - (k + 2) = m + 1 := by omega
    have e3 : N + 2 - (k + 3) = m := by omega
    rw [e1, e2, e3]
    show 2 * (s (N - 1 - m) + s (N - m)) * bhQ s N (m + 1) - s (N - m) * s (N - m) * bhQ s N m = _
    have e4 : N - 1 - m = k := by omega
    have e5 : N - m = k + 1 := by omega
    rw [e4, e5]
def prQ (s : Nat → Rat) : Nat → Rat
  | 0 => 1
  | k + 1 => prQ s k * s k
section NI
variable {s : Nat → Rat} {sp : Nat → Int64} {N : Nat}
theorem RI_pro {m : Nat} (hs : ∀ k, k < m → RI (sp k) (s k)) : RI (proL sp m) (prQ s m) := by
  induction m with
  | zero => exact RI_1
  | succ m ih => exact RI_mul (ih (fun k hk => hs k (by omega))) (hs m (by omega))
theorem RI_ahd (hs : ∀ k, k < N + 1 → RI (sp k) (s k)) : ∀ k, k < N + 1 → RI (ahdF sp k) (cH s (k + 1))
  | 0, _ => RI_1
  | 1, h => by
    refine RI_eq (RI_mul (RI_mul RI_2 (RI_add (hs 0 (by omega)) (hs 1 h))) RI_1) ?_
    show _ = 2 * (s 0 + s 1) * 1 - s 0 * s 0 * 0
    grind
  | k + 2, h => RI_sub (RI_mul (RI_mul RI_2 (RI_add (hs (k + 1) (by omega)) (hs (k + 2) h))) (RI_ahd hs (k + 1) (by omega))) (RI_mul (RI_mul (hs (k + 1) (by omega)) (hs (k + 1) (by omega))) (RI_ahd hs k (by omega)))
theorem RI_bhd (hs : ∀ k, k < N + 1 → RI (sp k) (s k)) : ∀ k, RI (bhdF sp N k) (bhQ s N (k + 1))
  | 0 => RI_1
  | 1 => by
    refine RI_eq (RI_mul (RI_mul RI_2 (RI_add (hs (N - 1) (by omega)) (hs N (by omega)))) RI_1) ?_
    show _ = 2 * (s (N - 1 - 0) + s (N - 0)) * 1 - s (N - 0) * s (N - 0) * 0
    simp only [Nat.sub_zero]
    grind
  | k + 2 => RI_sub (RI_mul (RI_mul RI_2 (RI_add (hs (N - 1 - (k + 1)) (by omega)) (hs (N - (k + 1)) (by omega)))) (RI_bhd hs (k + 1))) (RI_mul (RI_mul (hs (N - (k + 1)) (by omega)) (hs (N - (k + 1)) (by omega))) (RI_bhd hs k))
/-- pairs that the loops have come to -/
def incB (r m a b : Nat) : Prop := min a b ≤ r ∨ (min a b = r + 1 ∧ max a b < r + 1 + m)
theorem incB_dec (r m a b : Nat) : incB r m a b ∨ ¬ incB r m a b := by
  unfold incB
  omega
noncomputable def incQ (r m a b : Nat) : Rat := if min a b ≤ r ∨ (min a b = r + 1 ∧ max a b < r + 1 + m) then 1 else 0
theorem sQ_upd {f g : Nat → Rat} {d : Rat} {i : Nat} : ∀ n, i < n → (∀ k, k < n → k ≠ i → g k = f k) → g i = f i + d → sQ g n = sQ f n + d
  | 0, h, _, _ => by omega
  | n + 1, h, h1, h2 => by
    simp only [sQ]
    by_cases e : i = n
    · subst e
      rw [sQ_congr (f := g) (g := f) (fun k hk => h1 k (by omega) (by omega)), h2]
      grind
    · rw [sQ_upd n (by omega) (fun k hk => h1 k (by omega)) h2, h1 n (by omega) (fun c => e c.symm)]
      grind
theorem gE_sym {T : Nat → Rat} {a b : Nat} : gE s T a b = gE s T b a := by
  unfold gE
  rcases Nat.lt_trichotomy a b with c | c | c
  · rw [if_pos (by omega), if_neg (by omega)]
  · subst c
    rfl
  · rw [if_neg (by omega), if_pos (by omega)]
variable {ah bh T64 g : Nat → Int64} {t : Nat → Rat}
theorem RI_chain (hs : ∀ k, k < N + 1 → RI (sp k) (s k)) (hah : ∀ k, k < N + 1 → RI (ah k) (cH s (k + 1))) {r : Nat} (hr : r < N) : ∀ m, r + 1 + m ≤ N + 1 → RI (innC sp ah (r + 1) m) (cH s (r + 1) * nPr s (r + 1) m)
  | 0, _ => RI_eq (hah r (by omega)) (by show _ = _ * 1; grind)
  | m + 1, h => RI_eq (RI_mul (RI_chain hs hah hr m (by omega)) (RI_neg (hs (r + 1 + m) (by omega)))) (by show _ = _ * (nPr s (r + 1) m * -(s (r + 1 + m))); grind)
theorem incQ_1 {r m a b : Nat} (h : min a b ≤ r ∨ (min a b = r + 1 ∧ max a b < r + 1 + m)) : incQ r m a b = 1 := if_pos h
theorem incQ_0 {r m a b : Nat} (h : ¬ (min a b ≤ r ∨ (min a b = r + 1 ∧ max a b < r + 1 + m))) : incQ r m a b = 0 := if_neg h
theorem RI_inn (hs : ∀ k, k < N + 1 → RI (sp k) (s k)) (hah : ∀ k, k < N + 1 → RI (ah k) (cH s (k + 1))) (hbh : ∀ k, 2 ≤ k → k ≤ N + 1 → RI (bh k) (tlQ s N k)) (ht : ∀ k, 1 ≤ k → k ≤ N → RI (T64 k) (t k)) {r : Nat} (hr : r < N) (hg : ∀ c, 1 ≤ c → c ≤ N → RI (g c) (sQ (fun j => incQ r 0 c (j + 1) * gE s (tlQ s N) c (j + 1) * t (j + 1)) N)) : ∀ m, r + m ≤ N → ∀ c, 1 ≤ c → c ≤ N → RI (innG sp ah bh T64 (r + 1) g m c) (sQ (fun j => incQ r m c (j + 1) * gE s (tlQ s N) c (j + 1) * t (j + 1)) N)
  | 0, _ => hg
  | m + 1, hm => by
    have ih := RI_inn hs hah hbh ht hr hg m (by omega)
    intro c hc hcN
    have he : RI (innC sp ah (r + 1) m * bh (r + 1 + m + 1)) (gE s (tlQ s N) (r + 1) (r + 1 + m)) := by
      refine RI_eq (RI_mul (RI_chain hs hah hr m (by omega)) (hbh (r + 1 + m + 1) (by omega) (by omega))) ?_
      unfold gE
      rw [if_pos (by omega), show r + 1 + m - (r + 1) = m by omega]
    have same : ∀ c, c ≠ r + 1 → c ≠ r + 1 + m → (fun j => incQ r (m + 1) c (j + 1) * gE s (tlQ s N) c (j + 1) * t (j + 1)) = (fun j => incQ r m c (j + 1) * gE s (tlQ s N) c (j + 1) * t (j + 1)) := fun c h1 h2 => by
      funext j
      have : incQ r (m + 1) c (j + 1) = incQ r m c (j + 1) := by
        unfold incQ
        have : (min c (j + 1) ≤ r ∨ (min c (j + 1) = r + 1 ∧ max c (j + 1) < r + 1 + (m + 1))) ↔ (min c (j + 1) ≤ r ∨ (min c (j + 1) = r + 1 ∧ max c (j + 1) < r + 1 + m)) := by omega
        simp only [this]
      rw [this]
    have upA : sQ (fun j => incQ r (m + 1) (r + 1) (j + 1) * gE s (tlQ s N) (r + 1) (j + 1) * t (j + 1)) N = sQ (fun j => incQ r m (r + 1) (j + 1) * gE s (tlQ s N) (r + 1) (j + 1) * t (j + 1)) N + gE s (tlQ s N) (r + 1) (r + 1 + m) * t (r + 1 + m) := by
      refine sQ_upd (i := r + m) N (by omega) (fun k hk hne => ?_) ?_
      · have : incQ r (m + 1) (r + 1) (k + 1) = incQ r m (r + 1) (k + 1) := by
          unfold incQ
          have : (min (r + 1) (k + 1) ≤ r ∨ (min (r + 1) (k + 1) = r + 1 ∧ max (r + 1) (k + 1) < r + 1 + (m + 1))) ↔ (min (r + 1) (k + 1) ≤ r ∨ (min (r + 1) (k + 1) = r + 1 ∧ max (r + 1) (k + 1) < r + 1 + m)) := by omega
          simp only [this]
        simp only [this]
      · rw [incQ_1 (by omega), incQ_0 (by omega), show r + m + 1 = r + 1 + m by omega]
        grind
    have upB : 0 < m → sQ (fun j => incQ r (m + 1) (r + 1 + m) (j + 1) * gE s (tlQ s N) (r + 1 + m) (j + 1) * t (j + 1)) N = sQ (fun j => incQ r m (r + 1 + m) (j + 1) * gE s (tlQ s N) (r + 1 + m) (j + 1) * t (j + 1)) N + gE s (tlQ s N) (r + 1) (r + 1 + m) * t (r + 1) := fun h0 => by
      refine sQ_upd (i := r) N (by omega) (fun k hk hne => ?_) ?_
      · have : incQ r (m + 1) (r + 1 + m) (k + 1) = incQ r m (r + 1 + m) (k + 1) := by
          unfold incQ
          have : (min (r + 1 + m) (k + 1) ≤ r ∨ (min (r + 1 + m) (k + 1) = r + 1 ∧ max (r + 1 + m) (k + 1) < r + 1 + (m + 1))) ↔ (min (r + 1 + m) (k + 1) ≤ r ∨ (min (r + 1 + m) (k + 1) = r + 1 ∧ max (r + 1 + m) (k + 1) < r + 1 + m)) := by omega
          simp only [this]
        simp only [this]
      · rw [incQ_1 (by omega), incQ_0 (by omega), gE_sym (a := r + 1 + m)]
        grind
    show RI (stpB (innC sp ah (r + 1) m * bh (r + 1 + m + 1)) T64 (r + 1) (r + 1 + m) (innG sp ah bh T64 (r + 1) g m) c) _
    unfold stpB
    by_cases h0 : r + 1 < r + 1 + m
    · rw [if_pos h0]
      by_cases cB : c = r + 1 + m
      · subst cB
        rw [upB (by omega)]
        simp only [vp_updL, if_true]
        rw [if_neg (show ¬ r + 1 + m = r + 1 by omega)]
        exact RI_add (ih _ (by omega) (by omega)) (RI_mul he (ht (r + 1) (by omega) (by omega)))
      · simp only [vp_updL, if_neg cB]
        by_cases cA : c = r + 1
        · subst cA
          rw [if_pos rfl, upA]
          exact RI_add (ih _ (by omega) (by omega)) (RI_mul he (ht (r + 1 + m) (by omega) (by omega)))
        · rw [if_neg cA, same c cA cB]
          exact ih c hc hcN
    · rw [if_neg h0]
      have : m = 0 := by omega
      subst this
      by_cases cA : c = r + 1
      · subst cA
        rw [upA]
        simp only [vp_updL, if_true]
        exact RI_add (ih _ (by omega) (by omega)) (RI_mul he (ht (r + 1) (by omega) (by omega)))
      · simp only [vp_updL, if_neg cA]
        rw [same c cA (by omega)]
        exact ih c hc hcN
theorem RI_out (hs : ∀ k, k < N + 1 → RI (sp k) (s k)) (hah : ∀ k, k < N + 1 → RI (ah k) (cH s (k + 1))) (hbh : ∀ k, 2 ≤ k → k ≤ N + 1 → RI (bh k) (tlQ s N k)) (ht : ∀ k, 1 ≤ k → k ≤ N → RI (T64 k) (t k)) (hg : ∀ c, 1 ≤ c → c ≤ N → g c = 0) : ∀ r, r ≤ N → ∀ c, 1 ≤ c → c ≤ N → RI (outG sp ah bh T64 N g r c) (sQ (fun j => incQ r 0 c (j + 1) * gE s (tlQ s N) c (j + 1) * t (j + 1)) N)
  | 0, _ => fun c hc hcN => by
    show RI (g c) _
    rw [hg c hc hcN, sQ_zero (fun j _ => by
      rw [incQ_0 (by omega)]
      grind)]
    exact RI_0
  | r + 1, hr => fun c hc hcN => by
    have ih := RI_out hs hah hbh ht hg r (by omega)
    have e := RI_inn hs hah hbh ht (show r < N by omega) ih (N - r) (by omega) c hc hcN
    refine RI_eq e (sQ_congr (fun j hj => ?_))
    have : incQ r (N - r) c (j + 1) = incQ (r + 1) 0 c (j + 1) := by
      unfold incQ
      have : (min c (j + 1) ≤ r ∨ (min c (j + 1) = r + 1 ∧ max c (j + 1) < r + 1 + (N - r))) ↔ (min c (j + 1) ≤ r + 1 ∨ (min c (j + 1) = r + 1 + 1 ∧ max c (j + 1) < r + 1 + 1 + 0)) := by omega
      simp only [this]
    rw [this]
theorem RI_bend (hs : ∀ k, k < N + 1 → RI (sp k) (s k)) (hah : ∀ k, k < N + 1 → RI (ah k) (cH s (k + 1))) (hbh : ∀ k, 2 ≤ k → k ≤ N + 1 → RI (bh k) (tlQ s N k)) (ht : ∀ k, 1 ≤ k → k ≤ N → RI (T64 k) (t k)) (hg : ∀ c, 1 ≤ c → c ≤ N → g c = 0) {c : Nat} (hc : 1 ≤ c) (hcN : c ≤ N) : RI (outG sp ah bh T64 N g N c) (sQ (fun j => gE s (tlQ s N) c (j + 1) * t (j + 1)) N) := by
  refine RI_eq (RI_out hs hah hbh ht hg N (Nat.le_refl _) c hc hcN) (sQ_congr (fun j hj => ?_))
  rw [incQ_1 (by omega)]
  grind
/-- what the loop over bends adds to pushes -/
theorem RI_pFin {W : Int64} {bd : Nat → Int64} {wq D : Rat} {B q0 : Nat → Rat} (hw : ∀ k, k < N + 1 → RI (cutL W (sp k)) (wq / s k)) (hb : ∀ a, 1 ≤ a → a ≤ N → RI (bd a) (D * B a)) (hg : ∀ i, i ≤ N + 1 → RI (g i) (q0 i)) : ∀ r, r ≤ N → ∀ i, i ≤ N + 1 → RI (pFin W sp bd g r i) (q0 i + wq * D * dd s N (fun a => if a = 0 ∨ r < a then 0 else B a) i)
  | 0, _ => fun i hi => by
    refine RI_eq (hg i hi) ?_
    have e : dd s N (fun a => if a = 0 ∨ 0 < a then 0 else B a) i = 0 := by
      unfold dd
      have : ∀ a : Nat, (if a = 0 ∨ 0 < a then (0 : Rat) else B a) = 0 := fun a => if_pos (by omega)
      simp only [this]
      split <;> split <;> grind
    rw [e]
    grind
  | r + 1, hr => fun i hi => by
    have ih := RI_pFin hw hb hg r (by omega)
    have e : dd s N (fun a => if a = 0 ∨ r + 1 < a then 0 else B a) i = dd s N (fun a => if a = 0 ∨ r < a then 0 else B a) i + B (r + 1) * dd s N (fun a => if a = r + 1 then 1 else 0) i := by
      rw [← dd_mul, ← dd_add]
      refine dd_congr hi (fun k hk => ?_)
      by_cases c : k = r + 1
      · subst c
        rw [if_neg (by omega), if_pos (by omega), if_pos rfl]
        grind
      · rw [if_neg c]
        by_cases c2 : k = 0 ∨ r < k
        · rw [if_pos (by omega), if_pos c2]
          grind
        · rw [if_neg (by omega), if_neg c2]
          grind
    have hl : RI (cutL W (sp r) * bd (r + 1)) (wq / s r * (D * B (r + 1))) := RI_mul (hw r (by omega)) (hb (r + 1) (by omega) hr)
    have hrr : RI (cutL W (sp (r + 1)) * bd (r + 1)) (wq / s (r + 1) * (D * B (r + 1))) := RI_mul (hw (r + 1) (by omega)) (hb (r + 1) (by omega) hr)
    show RI (stpP (cutL W (sp r) * bd (r + 1)) (cutL W (sp (r + 1)) * bd (r + 1)) (r + 1) (pFin W sp bd g r) i) _
    rw [e]
    unfold stpP
    simp only [vp_updL]
    by_cases c2 : i = r + 1 + 1
    · subst c2
      rw [if_pos rfl, if_neg (by omega), if_neg (by omega)]
      refine RI_eq (RI_add (ih _ hi) hrr) ?_
      have : dd s N (fun a => if a = r + 1 then (1 : Rat) else 0) (r + 1 + 1) = 1 / s (r + 1) := by
        unfold dd
        simp only [show ¬ (r + 1 + 1 + 1 = r + 1) by omega, show ¬ (r + 1 + 1 = r + 1) by omega, show ¬ (r + 1 + 1 = 0) by omega, if_false, show r + 1 + 1 - 1 = r + 1 by omega, if_true]
        split <;> grind
      rw [this]
      grind
    · rw [if_neg c2]
      by_cases c1 : i = r + 1
      · subst c1
        rw [if_pos rfl, if_neg (by omega)]
        refine RI_eq (RI_sub (ih _ hi) (RI_add hl hrr)) ?_
        have : dd s N (fun a => if a = r + 1 then (1 : Rat) else 0) (r + 1) = -(1 / s (r + 1)) - 1 / s r := by
          unfold dd
          simp only [show ¬ (r + 1 + 1 = r + 1) by omega, show ¬ (r + 1 = 0) by omega, if_false, show r + 1 - 1 = r by omega, show ¬ (r = r + 1) by omega, if_true]
          rw [if_pos (by omega)]
          grind
        rw [this]
        grind
      · rw [if_neg c1]
        by_cases c0 : i = r + 1 - 1
        · have : i = r := by omega
          subst this
          rw [if_pos (by omega)]
          refine RI_eq (RI_add (by rw [show i + 1 - 1 = i by omega]; exact ih _ hi) hl) ?_
          have : dd s N (fun a => if a = i + 1 then (1 : Rat) else 0) i = 1 / s i := by
            unfold dd
            simp only [if_true, if_neg (show ¬ i = i + 1 by omega), if_neg (show ¬ i - 1 = i + 1 by omega)]
            rw [if_pos (show i ≤ N by omega)]
            split <;> grind
          rw [this]
          grind
        · rw [if_neg c0]
          refine RI_eq (ih _ hi) ?_
          have : dd s N (fun a => if a = r + 1 then (1 : Rat) else 0) i = 0 := by
            unfold dd
            simp only [if_neg (show ¬ i + 1 = r + 1 by omega), if_neg c1, if_neg (show ¬ i - 1 = r + 1 by omega)]
            split <;> split <;> grind
          rw [this]
          grind
end NI
