/-! NUMBERS, 4: the model's loads, the class's loads: they are the same -/
def hanL (x w : Nat → Rat) : Rat := -sQ (fun p => w p * tp (x 0 - p)) 13
def hanR (x w : Nat → Rat) (N : Nat) : Rat := -sQ (fun p => w p * tp (p - x (N + 1))) 13
def rhoQ (x s h w : Nat → Rat) (F : Rat) (N j : Nat) : Rat := 6 * F * d2 s h j - sQ (fun p => w p * insQ x s j p) 13 - (if j = 0 then s 0 * hanL x w else 0) - (if j + 1 = N then s N * hanR x w N else 0)
def momQ (x s h w T : Nat → Rat) (F : Rat) (N a : Nat) : Rat := if a = 0 then hanL x w else if a = N + 1 then hanR x w N else sQ (fun j => gE s T a (j + 1) * rhoQ x s h w F N j) N / cH s (N + 1)
/-- the LOAD of support i, THE SHAFT going through all -/
def ldQ (x s h w T : Nat → Rat) (F : Rat) (N i : Nat) : Rat := sQ (fun p => w p * hatQ x s N i p) 13 + dd s N (momQ x s h w T F N) i
def allQ (w : Nat → Rat) : Rat := sQ w 13
def mmtQ (w : Nat → Rat) : Rat := sQ (fun p => p * w p) 13
def fstQ (x w : Nat → Rat) : Rat := x 1 * allQ w - mmtQ w
def sndQ (x w : Nat → Rat) : Rat := mmtQ w - x 0 * allQ w
def basQ (x s w : Nat → Rat) (k : Nat) : Rat := if k = 0 then fstQ x w / s 0 else if k = 1 then sndQ x w / s 0 else 0
def lamQ (x s h w : Nat → Rat) (F : Rat) (N k : Nat) : Rat := 6 * F * h k - SQ (basQ x s w) x w (N + 2) (x k)
def benQ (x s h w T : Nat → Rat) (F : Rat) (N a : Nat) : Rat := if a = 0 ∨ N < a then 0 else sQ (fun j => gE s T a (j + 1) * d2 s (lamQ x s h w F N) j) N / cH s (N + 1)
theorem sQ_two {f : Nat → Rat} : ∀ n, (∀ k, 2 ≤ k → f k = 0) → sQ f (n + 2) = f 0 + f 1
  | 0, _ => by simp only [sQ]; grind
  | n + 1, h => by
    show sQ f (n + 2) + f (n + 2) = _
    rw [sQ_two n h, h (n + 2) (by omega)]
    grind
theorem bas_2 {x s w : Nat → Rat} : ∀ k, 2 ≤ k → basQ x s w k = 0 := fun k hk => by
  unfold basQ
  rw [if_neg (by omega), if_neg (by omega)]
theorem bas_all {x s w : Nat → Rat} {N : Nat} (h : isX x s N) : sQ (basQ x s w) (N + 2) = sQ w 13 := by
  rw [sQ_two N bas_2]
  have h0 := h.1 0
  have hn : s 0 ≠ 0 := by grind
  have h1 := h.2 0 (by omega)
  show (x 1 * sQ w 13 - mmtQ w) / s 0 + (mmtQ w - x 0 * sQ w 13) / s 0 = _
  rw [show x 1 = x 0 + s 0 from h1]
  grind
theorem tp_le {v : Rat} (h : v ≤ 0) : tp v = 0 := if_pos h
theorem tp_nn {v : Rat} (h : 0 ≤ v) : tp v = v := by
  unfold tp
  split
  · grind
  · rfl
theorem tp_dif {v : Rat} : tp v - tp (-v) = v := by
  unfold tp
  split <;> split <;> grind
theorem g_left {x s w : Nat → Rat} {N : Nat} (h : isX x s N) : gQ (basQ x s w) x w (N + 2) (x 0) = hanL x w := by
  unfold gQ hanL
  rw [sQ_zero (fun k hk => by
    have := isX_le h (Nat.zero_le k) (by omega)
    rw [tp_le (by grind)]
    grind)]
  grind
theorem g_right {x s w : Nat → Rat} {N : Nat} (h : isX x s N) : gQ (basQ x s w) x w (N + 2) (x (N + 1)) = hanR x w N := by
  unfold gQ hanR
  have h0 := h.1 0
  have hn : s 0 ≠ 0 := by grind
  have h1 : x 1 = x 0 + s 0 := h.2 0 (by omega)
  have l0 := isX_le h (show 0 ≤ N + 1 by omega) (Nat.le_refl _)
  have l1 := isX_le h (show 1 ≤ N + 1 by omega) (Nat.le_refl _)
  rw [sQ_two N (fun k hk => by rw [bas_2 k hk]; grind), tp_nn (show 0 ≤ x (N + 1) - x 0 by grind), tp_nn (show 0 ≤ x (N + 1) - x 1 by grind)]
  have e : sQ (fun p => w p * tp (x (N + 1) - p)) 13 - sQ (fun p => w p * tp (p - x (N + 1))) 13 = x (N + 1) * sQ w 13 - sQ (fun p => p * w p) 13 := by
    rw [← sQ_sub, ← sQ_mul, ← sQ_sub]
    refine sQ_congr (fun p hp => ?_)
    have := tp_dif (v := x (N + 1) - (p : Rat))
    rw [show -(x (N + 1) - (p : Rat)) = p - x (N + 1) by grind] at this
    grind
  show fstQ x w / s 0 * (x (N + 1) - x 0) + sndQ x w / s 0 * (x (N + 1) - x 1) - _ = _
  unfold fstQ sndQ allQ mmtQ
  grind
/-- the class's right sides -/
theorem tau_rho {x s h w : Nat → Rat} {F : Rat} {N j : Nat} (hX : isX x s N) (hj : j < N) : d2 s (lamQ x s h w F N) j = rhoQ x s h w F N j - avQ s (fun k => if k = 0 ∨ N < k then 0 else gQ (basQ x s w) x w (N + 2) (x k)) j := by
  have h1 := tm_S (r := basQ x s w) (w := w) hX hj
  have h2 : d2 s (lamQ x s h w F N) j = 6 * F * d2 s h j - d2 s (fun k => SQ (basQ x s w) x w (N + 2) (x k)) j := by
    unfold lamQ
    rw [d2_sub (f := fun k => 6 * F * h k), d2_mul]
  rw [h2, h1]
  have g0 := g_left (w := w) hX
  have g1 := g_right (w := w) hX
  unfold rhoQ avQ
  simp only
  have e0 : (if j = 0 ∨ N < j then 0 else gQ (basQ x s w) x w (N + 2) (x j)) = gQ (basQ x s w) x w (N + 2) (x j) - (if j = 0 then hanL x w else 0) := by
    by_cases c : j = 0
    · subst c
      rw [if_pos (Or.inl rfl), if_pos rfl, g0]
      grind
    · rw [if_neg (by omega), if_neg c]
      grind
  have e1 : (if j + 1 = 0 ∨ N < j + 1 then 0 else gQ (basQ x s w) x w (N + 2) (x (j + 1))) = gQ (basQ x s w) x w (N + 2) (x (j + 1)) := if_neg (by omega)
  have e2 : (if j + 2 = 0 ∨ N < j + 2 then 0 else gQ (basQ x s w) x w (N + 2) (x (j + 2))) = gQ (basQ x s w) x w (N + 2) (x (j + 2)) - (if j + 1 = N then hanR x w N else 0) := by
    by_cases c : j + 1 = N
    · subst c
      rw [if_pos (by omega), if_pos rfl, g1]
      grind
    · rw [if_neg (by omega), if_neg c]
      grind
  rw [e0, e1, e2]
  by_cases c0 : j = 0
  · subst c0
    simp only [if_true]
    by_cases c : 0 + 1 = N
    · subst c
      simp only [if_true]
      grind
    · simp only [if_neg c]
      grind
  · simp only [if_neg c0]
    by_cases c : j + 1 = N
    · subst c
      simp only [if_true]
      grind
    · simp only [if_neg c]
      grind
theorem ben_mom {x s h w T : Nat → Rat} {F : Rat} {N a : Nat} (hX : isX x s N) (hT : cT s N T) (ha : a ≤ N + 1) : benQ x s h w T F N a = momQ x s h w T F N a - gQ (basQ x s w) x w (N + 2) (x a) := by
  unfold benQ momQ
  by_cases c0 : a = 0
  · subst c0
    rw [if_pos (Or.inl rfl), if_pos rfl, g_left hX]
    grind
  · rw [if_neg c0]
    by_cases c1 : a = N + 1
    · subst c1
      rw [if_pos (by omega), if_pos rfl, g_right hX]
      grind
    · rw [if_neg c1, if_neg (by omega)]
      have hd := (cH_pos hX.1 N).1
      have hn : cH s (N + 1) ≠ 0 := by grind
      have e : sQ (fun j => gE s T a (j + 1) * d2 s (lamQ x s h w F N) j) N = sQ (fun j => gE s T a (j + 1) * rhoQ x s h w F N j) N - cH s (N + 1) * gQ (basQ x s w) x w (N + 2) (x a) := by
        have hv := inv_all (s := s) (T := T) (N := N) (a := a) (v := fun k => if k = 0 ∨ N < k then 0 else gQ (basQ x s w) x w (N + 2) (x k)) hT (by simp) (by simp) (by omega) (by omega)
        have hv2 : (if a = 0 ∨ N < a then 0 else gQ (basQ x s w) x w (N + 2) (x a)) = gQ (basQ x s w) x w (N + 2) (x a) := if_neg (by omega)
        rw [hv2] at hv
        rw [← hv, ← sQ_sub]
        refine sQ_congr (fun j hj => ?_)
        rw [tau_rho hX hj]
        grind
      rw [e]
      grind
/-- the class's loads are the model's -/
theorem cls_ld {x s h w T : Nat → Rat} {F : Rat} {N i : Nat} (hX : isX x s N) (hT : cT s N T) (hi : i ≤ N + 1) : basQ x s w i + dd s N (benQ x s h w T F N) i = ldQ x s h w T F N i := by
  have e : dd s N (benQ x s h w T F N) i = dd s N (momQ x s h w T F N) i - dd s N (fun k => gQ (basQ x s w) x w (N + 2) (x k)) i := by
    rw [← dd_sub]
    exact dd_congr hi (fun k hk => ben_mom hX hT hk)
  rw [e, dd_g hX hi (bas_all hX)]
  unfold ldQ
  grind
