/-! NUMBERS, 3: loads by moments; two ways to them -/
def tp (v : Rat) : Rat := if v ≤ 0 then 0 else v
def cb (v : Rat) : Rat := if v ≤ 0 then 0 else v * v * v
def sq2 (v : Rat) : Rat := if v ≤ 0 then 0 else v * v
/-- places of supports: N + 2 of them, spans s -/
def isX (x s : Nat → Rat) (N : Nat) : Prop := (∀ k, 0 < s k) ∧ ∀ k, k ≤ N → x (k + 1) = x k + s k
theorem isX_up {x s : Nat → Rat} {N : Nat} (h : isX x s N) (i : Nat) : ∀ d, i + d ≤ N → x i < x (i + d + 1)
  | 0, hd => by
    have h1 := h.2 i (by omega)
    have h2 := h.1 i
    rw [Nat.add_zero, h1]
    grind
  | d + 1, hd => by
    have ih := isX_up h i d (by omega)
    have h1 := h.2 (i + d + 1) (by omega)
    have h2 := h.1 (i + d + 1)
    show x i < x (i + d + 1 + 1)
    rw [h1]
    grind
theorem isX_lt {x s : Nat → Rat} {N i k : Nat} (h : isX x s N) (h1 : i < k) (h2 : k ≤ N + 1) : x i < x k := by
  obtain ⟨d, rfl⟩ : ∃ d, k = i + d + 1 := ⟨k - i - 1, by omega⟩
  exact isX_up h i d (by omega)
theorem isX_le {x s : Nat → Rat} {N i k : Nat} (h : isX x s N) (h1 : i ≤ k) (h2 : k ≤ N + 1) : x i ≤ x k := by
  rcases Nat.lt_or_ge i k with q | q
  · exact Rat.le_of_lt (isX_lt h q h2)
  · have : i = k := by omega
    subst this
    exact Rat.le_refl
def rdQ (x s : Nat → Rat) (k : Nat) (q : Rat) : Rat := if q ≤ x k then 1 else if x (k + 1) ≤ q then 0 else (x (k + 1) - q) / s k
theorem tp_rd {a b q s : Rat} (hs : 0 < s) (hb : b = a + s) : (tp (b - q) - tp (a - q)) / s = if q ≤ a then 1 else if b ≤ q then 0 else (b - q) / s := by
  have hn : s ≠ 0 := by grind
  unfold tp
  by_cases h1 : q ≤ a
  · rw [if_pos h1]
    by_cases h2 : a - q ≤ 0
    · rw [if_pos h2, if_neg (by grind)]
      have : q = a := by grind
      grind
    · rw [if_neg h2, if_neg (by grind)]
      grind
  · rw [if_neg h1, if_pos (show a - q ≤ 0 by grind)]
    by_cases h2 : b ≤ q
    · rw [if_pos h2, if_pos (by grind)]
      grind
    · rw [if_neg h2, if_neg (by grind)]
      grind
/-- slopes ahead less slopes behind -/
def dd (s : Nat → Rat) (N : Nat) (f : Nat → Rat) (i : Nat) : Rat := (if i ≤ N then (f (i + 1) - f i) / s i else 0) - (if i = 0 then 0 else (f i - f (i - 1)) / s (i - 1))
def hatQ (x s : Nat → Rat) (N i : Nat) (q : Rat) : Rat := (if i ≤ N then rdQ x s i q else 1) - (if i = 0 then 0 else rdQ x s (i - 1) q)
theorem dd_tp {x s : Nat → Rat} {N i : Nat} {q : Rat} (h : isX x s N) (hi : i ≤ N + 1) : dd s N (fun k => tp (x k - q)) i = hatQ x s N i q - (if i ≤ N then 0 else 1) := by
  unfold dd hatQ
  have e2 : (if i = 0 then 0 else (tp (x i - q) - tp (x (i - 1) - q)) / s (i - 1)) = if i = 0 then 0 else rdQ x s (i - 1) q := by
    by_cases c : i = 0
    · rw [if_pos c, if_pos c]
    · rw [if_neg c, if_neg c]
      obtain ⟨j, rfl⟩ : ∃ j, i = j + 1 := ⟨i - 1, by omega⟩
      exact tp_rd (h.1 j) (h.2 j (by omega))
  rw [e2]
  by_cases c : i ≤ N
  · rw [if_pos c, if_pos c, if_pos c, tp_rd (h.1 i) (h.2 i c)]
    show rdQ x s i q - _ = _
    grind
  · rw [if_neg c, if_neg c, if_neg c]
    grind
theorem hat_at {x s : Nat → Rat} {N i k : Nat} (h : isX x s N) (hi : i ≤ N + 1) (hk : k ≤ N + 1) : hatQ x s N i (x k) = if k = i then 1 else 0 := by
  have e : ∀ j, j ≤ N → rdQ x s j (x k) = if k ≤ j then 1 else 0 := by
    intro j hj
    unfold rdQ
    by_cases c : k ≤ j
    · rw [if_pos c, if_pos (isX_le h c (by omega))]
    · rw [if_neg c, if_neg (Rat.not_le.mpr (isX_lt h (by omega) (by omega))), if_pos (isX_le h (by omega) hk)]
  unfold hatQ
  by_cases c0 : i = 0
  · subst c0
    rw [if_pos rfl, if_pos (Nat.zero_le _), e 0 (Nat.zero_le _)]
    by_cases c : k = 0
    · rw [if_pos c, if_pos (by omega)]
      grind
    · rw [if_neg c, if_neg (by omega)]
      grind
  · rw [if_neg c0, e (i - 1) (by omega)]
    by_cases c1 : i ≤ N
    · rw [if_pos c1, e i c1]
      by_cases c : k = i
      · rw [if_pos c, if_pos (by omega), if_neg (by omega)]
        grind
      · rw [if_neg c]
        by_cases c2 : k ≤ i
        · rw [if_pos c2, if_pos (by omega)]
          grind
        · rw [if_neg c2, if_neg (by omega)]
          grind
    · rw [if_neg c1]
      by_cases c : k = i
      · rw [if_pos c, if_neg (by omega)]
        grind
      · rw [if_neg c, if_pos (by omega)]
        grind
theorem dd_add {s f g : Nat → Rat} {N i : Nat} : dd s N (fun k => f k + g k) i = dd s N f i + dd s N g i := by
  unfold dd
  split <;> split <;> grind
theorem dd_sub {s f g : Nat → Rat} {N i : Nat} : dd s N (fun k => f k - g k) i = dd s N f i - dd s N g i := by
  unfold dd
  split <;> split <;> grind
theorem dd_mul {s f : Nat → Rat} {c : Rat} {N i : Nat} : dd s N (fun k => c * f k) i = c * dd s N f i := by
  unfold dd
  split <;> split <;> grind
theorem dd_congr {s f g : Nat → Rat} {N i : Nat} (hi : i ≤ N + 1) (h : ∀ k, k ≤ N + 1 → f k = g k) : dd s N f i = dd s N g i := by
  unfold dd
  by_cases c : i ≤ N
  · rw [if_pos c, if_pos c, h i hi, h (i + 1) (by omega), h (i - 1) (by omega)]
  · rw [if_neg c, if_neg c, h i hi, h (i - 1) (by omega)]
theorem dd_sum {s : Nat → Rat} {f : Nat → Nat → Rat} {N i : Nat} : ∀ n, dd s N (fun k => sQ (fun j => f j k) n) i = sQ (fun j => dd s N (f j) i) n
  | 0 => by
    unfold dd
    simp only [sQ]
    split <;> split <;> grind
  | n + 1 => by
    show dd s N (fun k => sQ (fun j => f j k) n + f n k) i = sQ (fun j => dd s N (f j) i) n + dd s N (f n) i
    rw [dd_add (f := fun k => sQ (fun j => f j k) n) (g := f n), dd_sum n]
/-- forces r at places x, weights w: their moment, and what they bend, at y -/
def gQ (r x w : Nat → Rat) (n : Nat) (y : Rat) : Rat := sQ (fun k => r k * tp (y - x k)) n - sQ (fun p => w p * tp (y - p)) 13
def SQ (r x w : Nat → Rat) (n : Nat) (y : Rat) : Rat := sQ (fun k => r k * cb (y - x k)) n - sQ (fun p => w p * cb (y - p)) 13
theorem sQ_one {f : Nat → Rat} {c : Rat} {i : Nat} : ∀ n, i < n → (∀ k, k < n → f k = if k = i then c else 0) → sQ f n = c
  | 0, h, _ => by omega
  | n + 1, h, hf => by
    show sQ f n + f n = c
    rw [hf n (by omega)]
    by_cases e : n = i
    · rw [if_pos e, sQ_zero (fun k hk => by rw [hf k (by omega), if_neg (by omega)])]
      grind
    · rw [if_neg e, sQ_one n (by omega) (fun k hk => hf k (by omega))]
      grind
theorem dd_g {r x s w : Nat → Rat} {N i : Nat} (h : isX x s N) (hi : i ≤ N + 1) (hb : sQ r (N + 2) = sQ w 13) : dd s N (fun k => gQ r x w (N + 2) (x k)) i = r i - sQ (fun p => w p * hatQ x s N i p) 13 := by
  unfold gQ
  rw [dd_sub (f := fun k => sQ (fun j => r j * tp (x k - x j)) (N + 2)) (g := fun k => sQ (fun p => w p * tp (x k - p)) 13)]
  rw [dd_sum (f := fun j k => r j * tp (x k - x j)), dd_sum (f := fun p k => w p * tp (x k - p))]
  have e1 : sQ (fun j => dd s N (fun k => r j * tp (x k - x j)) i) (N + 2) = r i - (if i ≤ N then 0 else 1) * sQ r (N + 2) := by
    rw [← sQ_mul]
    have e3 : sQ (fun j => if j = i then r i else 0) (N + 2) = r i := sQ_one _ (by omega) (fun k _ => rfl)
    refine Eq.trans ?_ (congrArg (fun z => z - sQ (fun j => (if i ≤ N then 0 else 1) * r j) (N + 2)) e3)
    show _ = sQ (fun j => if j = i then r i else 0) (N + 2) - sQ (fun j => (if i ≤ N then 0 else 1) * r j) (N + 2)
    rw [← sQ_sub]
    refine sQ_congr (fun j hj => ?_)
    rw [dd_mul (f := fun k => tp (x k - x j)), dd_tp h hi, hat_at h hi (by omega)]
    by_cases c : j = i
    · subst c
      rw [if_pos rfl, if_pos rfl]
      grind
    · rw [if_neg c, if_neg c]
      grind
  have e2 : sQ (fun p => dd s N (fun k => w p * tp (x k - p)) i) 13 = sQ (fun p => w p * hatQ x s N i p) 13 - (if i ≤ N then 0 else 1) * sQ w 13 := by
    rw [← sQ_mul, ← sQ_sub]
    refine sQ_congr (fun p hp => ?_)
    rw [dd_mul (f := fun k => tp (x k - p)), dd_tp h hi]
    grind
  rw [e1, e2, hb]
  grind
/-- what stands between supports, in the equation of three moments of support j + 1 -/
def insQ (x s : Nat → Rat) (j : Nat) (q : Rat) : Rat := (if x j < q ∧ q < x (j + 1) then (q - x j) * (s j - (q - x j)) * (s j + (q - x j)) / s j else 0) + (if x (j + 1) < q ∧ q < x (j + 2) then (x (j + 2) - q) * (s (j + 1) - (x (j + 2) - q)) * (s (j + 1) + (x (j + 2) - q)) / s (j + 1) else 0)
/-- slopes ahead less slopes behind, at support j + 1 -/
def d2 (s f : Nat → Rat) (j : Nat) : Rat := (f (j + 2) - f (j + 1)) / s (j + 1) - (f (j + 1) - f j) / s j
theorem tm_one {a b c l r q : Rat} (hl : 0 < l) (hr : 0 < r) (hb : b = a + l) (hc : c = b + r) :
    (cb (c - q) - cb (b - q)) / r - (cb (b - q) - cb (a - q)) / l = l * tp (a - q) + 2 * (l + r) * tp (b - q) + r * tp (c - q) - ((if a < q ∧ q < b then (q - a) * (l - (q - a)) * (l + (q - a)) / l else 0) + (if b < q ∧ q < c then (c - q) * (r - (c - q)) * (r + (c - q)) / r else 0)) := by
  have n1 : l ≠ 0 := by grind
  have n2 : r ≠ 0 := by grind
  unfold cb tp
  subst hc hb
  by_cases h1 : q ≤ a
  · rw [if_neg (show ¬ (a < q ∧ q < a + l) by grind), if_neg (show ¬ (a + l < q ∧ q < a + l + r) by grind)]
    rw [if_neg (show ¬ (a + l + r - q ≤ 0) by grind), if_neg (show ¬ (a + l - q ≤ 0) by grind)]
    by_cases h2 : a - q ≤ 0
    · have : q = a := by grind
      subst this
      rw [if_pos h2, if_neg (show ¬ (q + l + r - q ≤ 0) by grind), if_neg (show ¬ (q + l - q ≤ 0) by grind), if_pos h2]
      grind
    · rw [if_neg h2, if_neg (show ¬ (a + l + r - q ≤ 0) by grind), if_neg (show ¬ (a + l - q ≤ 0) by grind), if_neg h2]
      grind
  · by_cases h2 : q < a + l
    · rw [if_pos (show a < q ∧ q < a + l by grind), if_neg (show ¬ (a + l < q ∧ q < a + l + r) by grind)]
      rw [if_neg (show ¬ (a + l + r - q ≤ 0) by grind), if_neg (show ¬ (a + l - q ≤ 0) by grind), if_pos (show a - q ≤ 0 by grind), if_neg (show ¬ (a + l + r - q ≤ 0) by grind), if_neg (show ¬ (a + l - q ≤ 0) by grind), if_pos (show a - q ≤ 0 by grind)]
      grind
    · rw [if_neg (show ¬ (a < q ∧ q < a + l) by grind)]
      rw [if_pos (show a + l - q ≤ 0 by grind), if_pos (show a - q ≤ 0 by grind), if_pos (show a + l - q ≤ 0 by grind), if_pos (show a - q ≤ 0 by grind)]
      by_cases h3 : q < a + l + r
      · rw [if_neg (show ¬ (a + l + r - q ≤ 0) by grind), if_neg (show ¬ (a + l + r - q ≤ 0) by grind)]
        by_cases h4 : a + l < q
        · rw [if_pos (show a + l < q ∧ q < a + l + r from ⟨h4, h3⟩)]
          grind
        · have : q = a + l := by grind
          subst this
          rw [if_neg (show ¬ (a + l < a + l ∧ a + l < a + l + r) by grind)]
          grind
      · rw [if_neg (show ¬ (a + l < q ∧ q < a + l + r) by grind), if_pos (show a + l + r - q ≤ 0 by grind), if_pos (show a + l + r - q ≤ 0 by grind)]
        grind
theorem tm_cb {x s : Nat → Rat} {N j : Nat} {q : Rat} (h : isX x s N) (hj : j < N) : d2 s (fun k => cb (x k - q)) j = avQ s (fun k => tp (x k - q)) j - insQ x s j q :=
  tm_one (h.1 j) (h.1 (j + 1)) (h.2 j (by omega)) (h.2 (j + 1) (by omega))
theorem insQ_at {x s : Nat → Rat} {N j k : Nat} (h : isX x s N) (hj : j < N) (hk : k ≤ N + 1) : insQ x s j (x k) = 0 := by
  unfold insQ
  have c1 : ¬ (x j < x k ∧ x k < x (j + 1)) := by
    intro ⟨c, d⟩
    rcases Nat.lt_or_ge j k with q | q
    · have := isX_le h (show j + 1 ≤ k by omega) hk
      grind
    · have := isX_le h q (by omega)
      grind
  have c2 : ¬ (x (j + 1) < x k ∧ x k < x (j + 2)) := by
    intro ⟨c, d⟩
    rcases Nat.lt_or_ge (j + 1) k with q | q
    · have := isX_le h (show j + 2 ≤ k by omega) hk
      grind
    · have := isX_le h q (by omega)
      grind
  rw [if_neg c1, if_neg c2]
  grind
theorem d2_sub {s f g : Nat → Rat} {j : Nat} : d2 s (fun k => f k - g k) j = d2 s f j - d2 s g j := by unfold d2; grind
theorem d2_mul {s f : Nat → Rat} {c : Rat} {j : Nat} : d2 s (fun k => c * f k) j = c * d2 s f j := by unfold d2; grind
theorem d2_sum {s : Nat → Rat} {f : Nat → Nat → Rat} {j : Nat} : ∀ n, d2 s (fun k => sQ (fun i => f i k) n) j = sQ (fun i => d2 s (f i) j) n
  | 0 => by unfold d2; simp only [sQ]; grind
  | n + 1 => by
    show d2 s (fun k => sQ (fun i => f i k) n + f n k) j = sQ (fun i => d2 s (f i) j) n + d2 s (f n) j
    rw [← d2_sum n]
    unfold d2
    grind
theorem av_sub {s f g : Nat → Rat} {j : Nat} : avQ s (fun k => f k - g k) j = avQ s f j - avQ s g j := by unfold avQ; grind
theorem av_sum {s : Nat → Rat} {f : Nat → Nat → Rat} {j : Nat} : ∀ n, avQ s (fun k => sQ (fun i => f i k) n) j = sQ (fun i => avQ s (f i) j) n
  | 0 => by unfold avQ; simp only [sQ]; grind
  | n + 1 => by
    show avQ s (fun k => sQ (fun i => f i k) n + f n k) j = sQ (fun i => avQ s (f i) j) n + avQ s (f n) j
    rw [← av_sum n]
    unfold avQ
    grind
theorem tm_S {r x s w : Nat → Rat} {N j : Nat} (h : isX x s N) (hj : j < N) : d2 s (fun k => SQ r x w (N + 2) (x k)) j = avQ s (fun k => gQ r x w (N + 2) (x k)) j + sQ (fun p => w p * insQ x s j p) 13 := by
  unfold SQ gQ
  rw [d2_sub (f := fun k => sQ (fun i => r i * cb (x k - x i)) (N + 2)) (g := fun k => sQ (fun p => w p * cb (x k - p)) 13),
    av_sub (f := fun k => sQ (fun i => r i * tp (x k - x i)) (N + 2)) (g := fun k => sQ (fun p => w p * tp (x k - p)) 13),
    d2_sum (f := fun i k => r i * cb (x k - x i)), d2_sum (f := fun p k => w p * cb (x k - p)), av_sum (f := fun i k => r i * tp (x k - x i)), av_sum (f := fun p k => w p * tp (x k - p))]
  have e1 : sQ (fun i => d2 s (fun k => r i * cb (x k - x i)) j) (N + 2) = sQ (fun i => avQ s (fun k => r i * tp (x k - x i)) j) (N + 2) := sQ_congr (fun i hi => by
    rw [d2_mul (f := fun k => cb (x k - x i)), tm_cb h hj, insQ_at h hj (by omega)]
    unfold avQ
    grind)
  have e2 : sQ (fun p => d2 s (fun k => w p * cb (x k - p)) j) 13 = sQ (fun p => avQ s (fun k => w p * tp (x k - p)) j) 13 - sQ (fun p => w p * insQ x s j p) 13 := by
    rw [← sQ_sub]
    refine sQ_congr (fun p hp => ?_)
    rw [d2_mul (f := fun k => cb (x k - p)), tm_cb h hj]
    unfold avQ
    grind
  rw [e1, e2]
  grind
