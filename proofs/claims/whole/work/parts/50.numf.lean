/-! NUMBERS, 6: between supports; on whole places -/
theorem gr_one {a b y : Rat} (q : Rat) (h1 : a ≤ y) (h2 : y ≤ b) : 0 ≤ (b - y) * tp (a - q) + (y - a) * tp (b - q) - (b - a) * tp (y - q) ∧ (b - y) * tp (a - q) + (y - a) * tp (b - q) - (b - a) * tp (y - q) ≤ (y - a) * (b - y) ∧ (q ≤ a ∨ b ≤ q → (b - y) * tp (a - q) + (y - a) * tp (b - q) - (b - a) * tp (y - q) = 0) := by
  have n1 := Rat.mul_nonneg (show 0 ≤ y - a by grind) (show 0 ≤ b - y by grind)
  by_cases c1 : q ≤ a
  · rw [tp_nn (show 0 ≤ a - q by grind), tp_nn (show 0 ≤ b - q by grind), tp_nn (show 0 ≤ y - q by grind)]
    have e : (b - y) * (a - q) + (y - a) * (b - q) - (b - a) * (y - q) = 0 := by grind
    rw [e]
    exact ⟨Rat.le_refl, n1, fun _ => rfl⟩
  · rw [tp_le (show a - q ≤ 0 by grind)]
    by_cases c2 : b ≤ q
    · rw [tp_le (show b - q ≤ 0 by grind), tp_le (show y - q ≤ 0 by grind)]
      have e : (b - y) * 0 + (y - a) * 0 - (b - a) * 0 = (0 : Rat) := by grind
      rw [e]
      exact ⟨Rat.le_refl, n1, fun _ => rfl⟩
    · rw [tp_nn (show 0 ≤ b - q by grind)]
      have n2 := Rat.mul_nonneg (show 0 ≤ y - a by grind) (show 0 ≤ b - q by grind)
      by_cases c3 : q ≤ y
      · rw [tp_nn (show 0 ≤ y - q by grind)]
        have n3 := Rat.mul_nonneg (show 0 ≤ q - a by grind) (show 0 ≤ b - y by grind)
        have n4 := Rat.mul_nonneg (show 0 ≤ y - q by grind) (show 0 ≤ b - y by grind)
        have e : (b - y) * 0 + (y - a) * (b - q) - (b - a) * (y - q) = (q - a) * (b - y) := by grind
        rw [e]
        refine ⟨n3, ?_, fun c => ?_⟩ <;> grind
      · rw [tp_le (show y - q ≤ 0 by grind)]
        have n3 := Rat.mul_nonneg (show 0 ≤ y - a by grind) (show 0 ≤ q - y by grind)
        have e : (b - y) * 0 + (y - a) * (b - q) - (b - a) * 0 = (y - a) * (b - q) := by grind
        rw [e]
        refine ⟨n2, ?_, fun c => ?_⟩ <;> grind
theorem g_btw {r x s w : Nat → Rat} {N i : Nat} {y : Rat} (hX : isX x s N) (hi : i ≤ N) (h1 : x i ≤ y) (h2 : y ≤ x (i + 1)) : s i * gQ r x w (N + 2) y = (x (i + 1) - y) * gQ r x w (N + 2) (x i) + (y - x i) * gQ r x w (N + 2) (x (i + 1)) + sQ (fun p => w p * ((x (i + 1) - y) * tp (x i - p) + (y - x i) * tp (x (i + 1) - p) - (x (i + 1) - x i) * tp (y - p))) 13 := by
  have hs := hX.2 i hi
  have e1 : s i * sQ (fun k => r k * tp (y - x k)) (N + 2) = (x (i + 1) - y) * sQ (fun k => r k * tp (x i - x k)) (N + 2) + (y - x i) * sQ (fun k => r k * tp (x (i + 1) - x k)) (N + 2) := by
    rw [← sQ_mul, ← sQ_mul, ← sQ_mul, ← sQ_add]
    refine sQ_congr (fun k hk => ?_)
    have := (gr_one (x k) h1 h2).2.2 (by
      rcases Nat.lt_or_ge i k with c | c
      · exact Or.inr (isX_le hX (by omega) (by omega))
      · exact Or.inl (isX_le hX c (by omega)))
    grind
  have e2 : s i * sQ (fun p => w p * tp (y - p)) 13 = (x (i + 1) - y) * sQ (fun p => w p * tp (x i - p)) 13 + (y - x i) * sQ (fun p => w p * tp (x (i + 1) - p)) 13 - sQ (fun p => w p * ((x (i + 1) - y) * tp (x i - p) + (y - x i) * tp (x (i + 1) - p) - (x (i + 1) - x i) * tp (y - p))) 13 := by
    rw [← sQ_mul, ← sQ_mul, ← sQ_mul, ← sQ_add, ← sQ_sub]
    refine sQ_congr (fun p hp => ?_)
    grind
  unfold gQ
  grind
def KM (H : Rat) : Rat := 240 * H + 13650
section NF
variable {x s h w T : Nat → Rat} {F H : Rat} {N : Nat}
theorem M_btw {i : Nat} {y : Rat} (a : isN x s h w F H N) (hT : cT s N T) (hi : i ≤ N) (h1 : x i ≤ y) (h2 : y ≤ x (i + 1)) : inQ (gQ (ldQ x s h w T F N) x w (N + 2) y) (KM H) := by
  have hX := a.1
  have hs := hX.2 i hi
  have hp := hX.1 i
  have hs2 := isN_s a hi
  have hH := a.2.2.2.2.2.2.2.2
  have e := g_btw (r := ldQ x s h w T F N) (w := w) hX hi h1 h2
  rw [g_mom hX hT i (by omega), g_mom hX hT (i + 1) (by omega)] at e
  have m0 := mom_in a hT (show i ≤ N + 1 by omega)
  have m1 := mom_in a hT (show i + 1 ≤ N + 1 by omega)
  have k0 : inQ ((x (i + 1) - y) * momQ x s h w T F N i) ((x (i + 1) - y) * KN H) := inQ_mul (by unfold inQ; grind) m0
  have k1 : inQ ((y - x i) * momQ x s h w T F N (i + 1)) ((y - x i) * KN H) := inQ_mul (by unfold inQ; grind) m1
  have q0 : (y - x i) * (x (i + 1) - y) ≤ 3 * s i := by
    have n0 : 0 ≤ (x (i + 1) - y - (y - x i)) * (x (i + 1) - y - (y - x i)) := by
      rcases Rat.le_total (a := 0) (b := x (i + 1) - y - (y - x i)) with c | c
      · exact Rat.mul_nonneg c c
      · have : (x (i + 1) - y - (y - x i)) * (x (i + 1) - y - (y - x i)) = (-(x (i + 1) - y - (y - x i))) * (-(x (i + 1) - y - (y - x i))) := by grind
        rw [this]
        exact Rat.mul_nonneg (by grind) (by grind)
    have n1 : s i * s i ≤ s i * 12 := Rat.mul_le_mul_of_nonneg_left hs2 (by grind)
    have n2 : 4 * ((y - x i) * (x (i + 1) - y)) = s i * s i - (x (i + 1) - y - (y - x i)) * (x (i + 1) - y - (y - x i)) := by
      rw [hs]
      grind
    grind
  have k2 := w_sum (w := w) (f := fun p => (x (i + 1) - y) * tp (x i - p) + (y - x i) * tp (x (i + 1) - p) - (x (i + 1) - x i) * tp (y - p)) (c := 3 * s i) a.2.2.2.2.1 (fun p _ => by
    have g := gr_one (p : Rat) h1 h2
    unfold inQ
    refine ⟨?_, ?_⟩
    · grind
    · exact Rat.le_trans g.2.1 q0) (by grind)
  have k3 := inQ_add (inQ_add k0 k1) k2
  rw [← e] at k3
  have e2 : (x (i + 1) - y) * KN H + (y - x i) * KN H + 650 * (3 * s i) = s i * KM H := by
    rw [hs]
    unfold KM KN
    grind
  rw [e2] at k3
  obtain ⟨k4, k5⟩ := k3
  constructor
  · refine Rat.le_of_mul_le_mul_left (c := s i) ?_ hp
    grind
  · exact Rat.le_of_mul_le_mul_left k5 hp
theorem M_head {y : Rat} (a : isN x s h w F H N) (hy : y ≤ x 0) (hy2 : y ≤ 12) : inQ (gQ (ldQ x s h w T F N) x w (N + 2) y) (KM H) := by
  have hH := a.2.2.2.2.2.2.2.2
  unfold gQ
  rw [sQ_zero (fun k hk => by
    have := isX_le a.1 (Nat.zero_le k) (by omega)
    rw [tp_le (by grind)]
    grind)]
  have k := w_tri (w := w) (f := fun p => tp (y - p)) a.2.2.2.2.1 (fun p hp => by
    have h1 := tp_ge (y - p)
    have h3 := p_le hp
    have h2 := tp_ub (v := y - (p : Rat)) (b := 12 - p) (by grind) (by grind)
    unfold inQ
    grind)
  have := inQ_sub (inQ_0 (c := 0) Rat.le_refl) k
  refine inQ_le this ?_
  unfold KM
  grind
theorem ld_mmt (hX : isX x s N) (hT : cT s N T) (y : Rat) : sQ (fun k => ldQ x s h w T F N k * (y - x k)) (N + 2) = sQ (fun p => w p * (y - p)) 13 := by
  have e := g_mom (h := h) (w := w) (F := F) hX hT (N + 1) (Nat.le_refl _)
  have e2 : momQ x s h w T F N (N + 1) = hanR x w N := by
    unfold momQ
    rw [if_neg (by omega), if_pos rfl]
  rw [e2] at e
  unfold gQ hanR at e
  have e3 : sQ (fun k => ldQ x s h w T F N k * tp (x (N + 1) - x k)) (N + 2) = sQ (fun k => ldQ x s h w T F N k * (x (N + 1) - x k)) (N + 2) := sQ_congr (fun k hk => by
    have := isX_le hX (show k ≤ N + 1 by omega) (Nat.le_refl _)
    rw [tp_nn (by grind)])
  have e4 : sQ (fun p => w p * tp (x (N + 1) - p)) 13 - sQ (fun p => w p * tp (p - x (N + 1))) 13 = sQ (fun p => w p * (x (N + 1) - p)) 13 := by
    rw [← sQ_sub]
    refine sQ_congr (fun p hp => ?_)
    have := tp_dif (v := x (N + 1) - (p : Rat))
    rw [show -(x (N + 1) - (p : Rat)) = p - x (N + 1) by grind] at this
    grind
  rw [e3] at e
  have e5 : sQ (fun k => ldQ x s h w T F N k * (y - x k)) (N + 2) = sQ (fun k => ldQ x s h w T F N k * (x (N + 1) - x k)) (N + 2) + (y - x (N + 1)) * sQ (ldQ x s h w T F N) (N + 2) := by
    rw [← sQ_mul, ← sQ_add]
    exact sQ_congr (fun k hk => by grind)
  have e6 : sQ (fun p => w p * (y - p)) 13 = sQ (fun p => w p * (x (N + 1) - p)) 13 + (y - x (N + 1)) * sQ w 13 := by
    rw [← sQ_mul, ← sQ_add]
    exact sQ_congr (fun k hk => by grind)
  rw [e5, e6, ld_all hX hT]
  grind
theorem M_tail {y : Rat} (a : isN x s h w F H N) (hT : cT s N T) (hy : x (N + 1) ≤ y) : inQ (gQ (ldQ x s h w T F N) x w (N + 2) y) (KM H) := by
  have hH := a.2.2.2.2.2.2.2.2
  have h0 := isN_x a (Nat.le_refl (N + 1))
  have e : gQ (ldQ x s h w T F N) x w (N + 2) y = -sQ (fun p => w p * tp (p - y)) 13 := by
    unfold gQ
    have e1 : sQ (fun k => ldQ x s h w T F N k * tp (y - x k)) (N + 2) = sQ (fun k => ldQ x s h w T F N k * (y - x k)) (N + 2) := sQ_congr (fun k hk => by
      have := isX_le a.1 (show k ≤ N + 1 by omega) (Nat.le_refl _)
      rw [tp_nn (by grind)])
    rw [e1, ld_mmt a.1 hT y]
    have e4 : sQ (fun p => w p * tp (y - p)) 13 - sQ (fun p => w p * tp (p - y)) 13 = sQ (fun p => w p * (y - p)) 13 := by
      rw [← sQ_sub]
      refine sQ_congr (fun p hp => ?_)
      have := tp_dif (v := y - (p : Rat))
      rw [show -(y - (p : Rat)) = p - y by grind] at this
      grind
    grind
  rw [e]
  have k := w_tri2 (w := w) (f := fun p => tp (p - y)) a.2.2.2.2.1 (fun p hp => by
    have h1 := tp_ge (p - y)
    have h3 := p_ge p
    have h2 := tp_ub (v := (p : Rat) - y) (b := p) (by grind) (by grind)
    unfold inQ
    grind)
  refine inQ_le (inQ_neg k) ?_
  unfold KM
  grind
theorem x_where (x : Nat → Rat) (y : Rat) : ∀ m, y ≤ x 0 ∨ x m ≤ y ∨ ∃ i, i < m ∧ x i ≤ y ∧ y ≤ x (i + 1)
  | 0 => by
    rcases Rat.le_total (a := y) (b := x 0) with c | c
    · exact Or.inl c
    · exact Or.inr (Or.inl c)
  | m + 1 => by
    rcases x_where x y m with c | c | ⟨i, hi, c⟩
    · exact Or.inl c
    · rcases Rat.le_total (a := y) (b := x (m + 1)) with d | d
      · exact Or.inr (Or.inr ⟨m, by omega, c, d⟩)
      · exact Or.inr (Or.inl d)
    · exact Or.inr (Or.inr ⟨i, by omega, c⟩)
/-- the moment anywhere -/
theorem M_in {y : Rat} (a : isN x s h w F H N) (hT : cT s N T) (hy : y ≤ 12) : inQ (gQ (ldQ x s h w T F N) x w (N + 2) y) (KM H) := by
  rcases x_where x y (N + 1) with c | c | ⟨i, hi, c⟩
  · exact M_head a c hy
  · exact M_tail a hT c
  · exact M_btw a hT (by omega) c.1 c.2
end NF
/-- on whole places: differences -/
theorem nat_btw {y q : Nat} : ¬ ((y : Rat) < q ∧ (q : Rat) < y + 1) := by
  intro ⟨h1, h2⟩
  have h1 : ((y : Int) : Rat) < ((q : Int) : Rat) := h1
  have h2 : ((q : Int) : Rat) < ((y + 1 : Int) : Rat) := by
    rw [Rat.intCast_add]
    exact h2
  rw [Rat.intCast_lt_intCast] at h1 h2
  omega
theorem cast_s (y : Nat) : ((y + 1 : Nat) : Rat) = (y : Rat) + 1 := by
  have := Rat.natCast_add y 1
  exact this
theorem cb_dd (y q : Nat) : cb (((y + 2 : Nat) : Rat) - q) - 2 * cb (((y + 1 : Nat) : Rat) - q) + cb ((y : Rat) - q) = tp ((y : Rat) - q) + 4 * tp (((y + 1 : Nat) : Rat) - q) + tp (((y + 2 : Nat) : Rat) - q) := by
  have e1 := cast_s y
  have e2 : ((y + 2 : Nat) : Rat) = ((y + 1 : Nat) : Rat) + 1 := cast_s (y + 1)
  have h := tm_one (a := (y : Rat)) (b := ((y + 1 : Nat) : Rat)) (c := ((y + 2 : Nat) : Rat)) (l := 1) (r := 1) (q := q) (by grind) (by grind) e1 e2
  rw [if_neg (by rw [e1]; exact nat_btw), if_neg (by rw [e2]; exact nat_btw)] at h
  grind
theorem sq_d (y q : Nat) : sq2 (((y + 1 : Nat) : Rat) - q) - sq2 ((y : Rat) - q) = tp ((y : Rat) - q) + tp (((y + 1 : Nat) : Rat) - q) := by
  have e1 := cast_s y
  rw [e1]
  unfold sq2 tp
  have hb := nat_btw (y := y) (q := q)
  by_cases c : (q : Rat) ≤ y
  · rw [if_neg (show ¬ ((y : Rat) + 1 - q ≤ 0) by grind), if_neg (show ¬ ((y : Rat) + 1 - q ≤ 0) by grind)]
    by_cases c2 : (y : Rat) - q ≤ 0
    · rw [if_pos c2, if_pos c2]
      grind
    · rw [if_neg c2, if_neg c2]
      grind
  · have : (y : Rat) + 1 ≤ q := by grind
    rw [if_pos (show ((y : Rat) + 1 - q ≤ 0) by grind), if_pos (show ((y : Rat) + 1 - q ≤ 0) by grind), if_pos (show ((y : Rat) - q ≤ 0) by grind), if_pos (show ((y : Rat) - q ≤ 0) by grind)]
    grind
/-- squares -/
def qQ (r x w : Nat → Rat) (n : Nat) (y : Rat) : Rat := sQ (fun k => r k * sq2 (y - x k)) n - sQ (fun p => w p * sq2 (y - p)) 13
section NG
variable {r w : Nat → Rat} {X : Nat → Nat} {n : Nat}
theorem S_dd (y : Nat) : SQ r (fun k => (X k : Rat)) w n ((y + 2 : Nat) : Rat) - 2 * SQ r (fun k => (X k : Rat)) w n ((y + 1 : Nat) : Rat) + SQ r (fun k => (X k : Rat)) w n (y : Rat) = gQ r (fun k => (X k : Rat)) w n (y : Rat) + 4 * gQ r (fun k => (X k : Rat)) w n ((y + 1 : Nat) : Rat) + gQ r (fun k => (X k : Rat)) w n ((y + 2 : Nat) : Rat) := by
  unfold SQ gQ
  have e1 : sQ (fun k => r k * cb (((y + 2 : Nat) : Rat) - X k)) n - 2 * sQ (fun k => r k * cb (((y + 1 : Nat) : Rat) - X k)) n + sQ (fun k => r k * cb ((y : Rat) - X k)) n = sQ (fun k => r k * tp ((y : Rat) - X k)) n + 4 * sQ (fun k => r k * tp (((y + 1 : Nat) : Rat) - X k)) n + sQ (fun k => r k * tp (((y + 2 : Nat) : Rat) - X k)) n := by
    rw [← sQ_mul, ← sQ_mul, ← sQ_sub, ← sQ_add, ← sQ_add, ← sQ_add]
    refine sQ_congr (fun k hk => ?_)
    have := cb_dd y (X k)
    grind
  have e2 : sQ (fun p => w p * cb (((y + 2 : Nat) : Rat) - p)) 13 - 2 * sQ (fun p => w p * cb (((y + 1 : Nat) : Rat) - p)) 13 + sQ (fun p => w p * cb ((y : Rat) - p)) 13 = sQ (fun p => w p * tp ((y : Rat) - p)) 13 + 4 * sQ (fun p => w p * tp (((y + 1 : Nat) : Rat) - p)) 13 + sQ (fun p => w p * tp (((y + 2 : Nat) : Rat) - p)) 13 := by
    rw [← sQ_mul, ← sQ_mul, ← sQ_sub, ← sQ_add, ← sQ_add, ← sQ_add]
    refine sQ_congr (fun p hk => ?_)
    have := cb_dd y p
    grind
  grind
theorem q_d (y : Nat) : qQ r (fun k => (X k : Rat)) w n ((y + 1 : Nat) : Rat) - qQ r (fun k => (X k : Rat)) w n (y : Rat) = gQ r (fun k => (X k : Rat)) w n (y : Rat) + gQ r (fun k => (X k : Rat)) w n ((y + 1 : Nat) : Rat) := by
  unfold qQ gQ
  have e1 : sQ (fun k => r k * sq2 (((y + 1 : Nat) : Rat) - X k)) n - sQ (fun k => r k * sq2 ((y : Rat) - X k)) n = sQ (fun k => r k * tp ((y : Rat) - X k)) n + sQ (fun k => r k * tp (((y + 1 : Nat) : Rat) - X k)) n := by
    rw [← sQ_sub, ← sQ_add]
    refine sQ_congr (fun k hk => ?_)
    have := sq_d y (X k)
    grind
  have e2 : sQ (fun p => w p * sq2 (((y + 1 : Nat) : Rat) - p)) 13 - sQ (fun p => w p * sq2 ((y : Rat) - p)) 13 = sQ (fun p => w p * tp ((y : Rat) - p)) 13 + sQ (fun p => w p * tp (((y + 1 : Nat) : Rat) - p)) 13 := by
    rw [← sQ_sub, ← sQ_add]
    refine sQ_congr (fun p hk => ?_)
    have := sq_d y p
    grind
  grind
theorem cb_0 {v : Rat} (h : v ≤ 0) : cb v = 0 := if_pos h
theorem S_0 : SQ r (fun k => (X k : Rat)) w n ((0 : Nat) : Rat) = 0 := by
  unfold SQ
  rw [sQ_zero (fun k _ => by
    have := p_ge (X k)
    rw [cb_0 (show (((0 : Nat) : Rat) - X k) ≤ 0 by have : ((0 : Nat) : Rat) = 0 := rfl; grind)]
    grind), sQ_zero (fun k _ => by
    have := p_ge k
    rw [cb_0 (show (((0 : Nat) : Rat) - k) ≤ 0 by have : ((0 : Nat) : Rat) = 0 := rfl; grind)]
    grind)]
  grind
theorem cb_1 (q : Nat) : cb (((1 : Nat) : Rat) - q) = tp (((1 : Nat) : Rat) - q) := by
  have e : ((1 : Nat) : Rat) = 1 := rfl
  rw [e]
  unfold cb tp
  have hb := nat_btw (y := 0) (q := q)
  have e0 : ((0 : Nat) : Rat) = 0 := rfl
  rw [e0] at hb
  have h0 := p_ge q
  by_cases c : (1 : Rat) - q ≤ 0
  · rw [if_pos c, if_pos c]
  · rw [if_neg c, if_neg c]
    have : (q : Rat) = 0 := by grind
    rw [this]
    grind
theorem S_1 : SQ r (fun k => (X k : Rat)) w n ((1 : Nat) : Rat) = gQ r (fun k => (X k : Rat)) w n ((1 : Nat) : Rat) := by
  unfold SQ gQ
  rw [sQ_congr (f := fun k => r k * cb (((1 : Nat) : Rat) - X k)) (g := fun k => r k * tp (((1 : Nat) : Rat) - X k)) (fun k _ => by simp only [cb_1]), sQ_congr (f := fun p => w p * cb (((1 : Nat) : Rat) - p)) (g := fun p => w p * tp (((1 : Nat) : Rat) - p)) (fun k _ => by simp only [cb_1])]
end NG
