/-! NUMBERS, 5: loads balance weights; moments between supports; how great they are -/
theorem dd_tel {s f : Nat → Rat} {N : Nat} : ∀ m, m ≤ N → sQ (dd s N f) (m + 1) = (f (m + 1) - f m) / s m
  | 0, _ => by
    simp only [sQ, dd]
    rw [if_pos (Nat.zero_le _), if_pos trivial]
    grind
  | m + 1, h => by
    show sQ (dd s N f) (m + 1) + dd s N f (m + 1) = _
    rw [dd_tel m (by omega)]
    unfold dd
    rw [if_pos h, if_neg (by omega), show m + 1 - 1 = m from rfl]
    grind
theorem dd_all {s f : Nat → Rat} {N : Nat} : sQ (dd s N f) (N + 2) = 0 := by
  show sQ (dd s N f) (N + 1) + dd s N f (N + 1) = 0
  rw [dd_tel N (Nat.le_refl _)]
  unfold dd
  rw [if_neg (by omega), if_neg (by omega), show N + 1 - 1 = N from rfl]
  grind
section ND
variable {x s h w T : Nat → Rat} {F : Rat} {N : Nat}
theorem ld_all (hX : isX x s N) (hT : cT s N T) : sQ (ldQ x s h w T F N) (N + 2) = sQ w 13 := by
  have e : sQ (ldQ x s h w T F N) (N + 2) = sQ (fun i => basQ x s w i + dd s N (benQ x s h w T F N) i) (N + 2) := sQ_congr (fun i hi => (cls_ld hX hT (by omega)).symm)
  rw [e, sQ_add, dd_all, bas_all hX]
  grind
/-- the moments at the supports are those of the forces -/
theorem g_mom (hX : isX x s N) (hT : cT s N T) : ∀ k, k ≤ N + 1 → gQ (ldQ x s h w T F N) x w (N + 2) (x k) = momQ x s h w T F N k
  | 0, _ => by
    show _ = hanL x w
    unfold gQ hanL
    rw [sQ_zero (fun k hk => by
      have := isX_le hX (Nat.zero_le k) (by omega)
      rw [tp_le (by grind)]
      grind)]
    grind
  | k + 1, hk => by
    have hall : ∀ i, i ≤ N + 1 → dd s N (fun k => gQ (ldQ x s h w T F N) x w (N + 2) (x k) - momQ x s h w T F N k) i = 0 := fun i hi => by
      rw [dd_sub (f := fun k => gQ (ldQ x s h w T F N) x w (N + 2) (x k)) (g := momQ x s h w T F N), dd_g hX hi (ld_all hX hT)]
      unfold ldQ
      grind
    have ih := g_mom hX hT k (by omega)
    have e1 := dd_tel (s := s) (f := fun k => gQ (ldQ x s h w T F N) x w (N + 2) (x k) - momQ x s h w T F N k) (N := N) k (by omega)
    rw [sQ_zero (fun i hi => hall i (by omega))] at e1
    have hn := hX.1 k
    have hn2 : s k ≠ 0 := by grind
    simp only [ih] at e1
    grind
end ND
theorem tp_ge (v : Rat) : 0 ≤ tp v := by
  unfold tp
  split <;> grind
theorem tp_ub {v b : Rat} (h : v ≤ b) (hb : 0 ≤ b) : tp v ≤ b := by
  unfold tp
  split <;> grind
theorem w_sum {w f : Nat → Rat} {c : Rat} (hw : ∀ p, p < 13 → 0 ≤ w p ∧ w p ≤ 50) (hf : ∀ p, p < 13 → inQ (f p) c) (hc : 0 ≤ c) : inQ (sQ (fun p => w p * f p) 13) (650 * c) := by
  have h := inQ_sum (f := fun p => w p * f p) (g := fun _ => 50 * c) (n := 13) (fun p hp => inQ_mul (by
    have := hw p hp
    unfold inQ
    grind) (hf p hp))
  refine inQ_le h ?_
  simp only [sQ]
  grind
theorem w_tri {w f : Nat → Rat} (hw : ∀ p, p < 13 → 0 ≤ w p ∧ w p ≤ 50) (hf : ∀ p, p < 13 → inQ (f p) (12 - p)) : inQ (sQ (fun p => w p * f p) 13) 3900 := by
  have h := inQ_sum (f := fun p => w p * f p) (g := fun p => 50 * (12 - (p : Rat))) (n := 13) (fun p hp => inQ_mul (by
    have := hw p hp
    unfold inQ
    grind) (hf p hp))
  refine inQ_le h ?_
  simp only [sQ]
  grind
theorem w_tri2 {w f : Nat → Rat} (hw : ∀ p, p < 13 → 0 ≤ w p ∧ w p ≤ 50) (hf : ∀ p, p < 13 → inQ (f p) p) : inQ (sQ (fun p => w p * f p) 13) 3900 := by
  have h := inQ_sum (f := fun p => w p * f p) (g := fun p => 50 * (p : Rat)) (n := 13) (fun p hp => inQ_mul (by
    have := hw p hp
    unfold inQ
    grind) (hf p hp))
  refine inQ_le h ?_
  simp only [sQ]
  grind
theorem p_le {p : Nat} (h : p < 13) : (p : Rat) ≤ 12 := by
  have : ((p : Int) : Rat) ≤ ((12 : Int) : Rat) := by
    rw [Rat.intCast_le_intCast]
    omega
  exact this
theorem p_ge (p : Nat) : 0 ≤ (p : Rat) := by
  have : ((0 : Int) : Rat) ≤ ((p : Int) : Rat) := by
    rw [Rat.intCast_le_intCast]
    omega
  exact this
/-- what is asked of places, heights, weights -/
def isN (x s h w : Nat → Rat) (F H : Rat) (N : Nat) : Prop := isX x s N ∧ (∀ k, 1 ≤ s k) ∧ 0 ≤ x 0 ∧ x (N + 1) ≤ 12 ∧ (∀ p, p < 13 → 0 ≤ w p ∧ w p ≤ 50) ∧ (∀ k, inQ (h k) H) ∧ 0 < F ∧ F ≤ 20 ∧ 0 ≤ H
theorem isN_x {x s h w : Nat → Rat} {F H : Rat} {N k : Nat} (a : isN x s h w F H N) (hk : k ≤ N + 1) : 0 ≤ x k ∧ x k ≤ 12 := by
  have h1 := isX_le a.1 (Nat.zero_le k) hk
  have h2 := isX_le a.1 hk (Nat.le_refl _)
  have h3 := a.2.2.1
  have h4 := a.2.2.2.1
  grind
theorem isN_s {x s h w : Nat → Rat} {F H : Rat} {N k : Nat} (a : isN x s h w F H N) (hk : k ≤ N) : s k ≤ 12 := by
  have h1 := isN_x a (show k ≤ N + 1 by omega)
  have h2 := isN_x a (show k + 1 ≤ N + 1 by omega)
  have h3 := a.1.2 k hk
  grind
theorem han_in {x s h w : Nat → Rat} {F H : Rat} {N : Nat} (a : isN x s h w F H N) : inQ (hanL x w) 3900 ∧ inQ (hanR x w N) 3900 := by
  constructor
  · refine inQ_neg (w_tri a.2.2.2.2.1 (fun p hp => ?_))
    have h1 := isN_x a (Nat.zero_le (N + 1))
    have h2 := p_le hp
    have h3 := tp_ge (x 0 - p)
    have h4 := tp_ub (v := x 0 - (p : Rat)) (b := 12 - p) (by grind) (by grind)
    unfold inQ
    grind
  · refine inQ_neg (w_tri2 a.2.2.2.2.1 (fun p hp => ?_))
    have h1 := isN_x a (Nat.le_refl (N + 1))
    have h2 := p_ge p
    have h3 := tp_ge (p - x (N + 1))
    have h4 := tp_ub (v := (p : Rat) - x (N + 1)) (b := p) (by grind) (by grind)
    unfold inQ
    grind
theorem ins_one {l a : Rat} (hl : 0 < l) (hl2 : l ≤ 12) (h0 : 0 < a) (h1 : a < l) : inQ (a * (l - a) * (l + a) / l) (6 * l) := by
  have hn : l ≠ 0 := by grind
  have e1 : 0 ≤ a * (l - a) := Rat.mul_nonneg (by grind) (by grind)
  have e2 : 0 ≤ a * (l - a) * (l + a) := Rat.mul_nonneg e1 (by grind)
  have e3 : a * (l - a) ≤ l * l / 4 := by
    have := Rat.mul_nonneg (a := (l - 2 * a) * (l - 2 * a)) (b := 1) (by
      rcases Rat.le_total (a := 0) (b := l - 2 * a) with c | c
      · exact Rat.mul_nonneg c c
      · have : (l - 2 * a) * (l - 2 * a) = (-(l - 2 * a)) * (-(l - 2 * a)) := by grind
        rw [this]
        exact Rat.mul_nonneg (by grind) (by grind)) (by grind)
    grind
  have e4 : a * (l - a) * (l + a) ≤ l * l / 4 * (l + a) := Rat.mul_le_mul_of_nonneg_right e3 (by grind)
  have e5 : 0 ≤ l * l / 4 := by grind
  have e6 : l * l / 4 * (l + a) ≤ l * l / 4 * (2 * l) := Rat.mul_le_mul_of_nonneg_left (by grind) e5
  have e7 : l * l / 4 * (2 * l) ≤ 6 * l * l := by
    have : l * l * l ≤ l * l * 12 := Rat.mul_le_mul_of_nonneg_left hl2 (by grind)
    grind
  have e8 : a * (l - a) * (l + a) / l * l = a * (l - a) * (l + a) := Rat.div_mul_cancel hn
  constructor
  · refine Rat.le_of_mul_le_mul_right (c := l) ?_ hl
    rw [e8]
    have : -(6 * l) * l ≤ 0 := by
      have := Rat.mul_pos hl hl
      grind
    grind
  · refine Rat.le_of_mul_le_mul_right (c := l) ?_ hl
    rw [e8]
    grind
theorem ins_in {x s h w : Nat → Rat} {F H : Rat} {N j : Nat} {q : Rat} (a : isN x s h w F H N) (hj : j < N) : inQ (insQ x s j q) (6 * (s j + s (j + 1))) := by
  have l1 := a.1.1 j
  have l2 := a.1.1 (j + 1)
  have m1 := isN_s a (show j ≤ N by omega)
  have m2 := isN_s a (show j + 1 ≤ N by omega)
  have x1 := a.1.2 j (by omega)
  have x2 := a.1.2 (j + 1) (by omega)
  have e1 : inQ (if x j < q ∧ q < x (j + 1) then (q - x j) * (s j - (q - x j)) * (s j + (q - x j)) / s j else 0) (6 * s j) := by
    split
    · rename_i c
      exact ins_one l1 m1 (by grind) (by grind)
    · exact inQ_0 (by grind)
  have e2 : inQ (if x (j + 1) < q ∧ q < x (j + 2) then (x (j + 2) - q) * (s (j + 1) - (x (j + 2) - q)) * (s (j + 1) + (x (j + 2) - q)) / s (j + 1) else 0) (6 * s (j + 1)) := by
    split
    · rename_i c
      exact ins_one l2 m2 (by grind) (by grind)
    · exact inQ_0 (by grind)
  refine inQ_le (inQ_add e1 e2) ?_
  grind
theorem div_in {a c s : Rat} (h : inQ a c) (hs : 1 ≤ s) : inQ (a / s) c := by
  have hp : 0 < s := by grind
  have hn : s ≠ 0 := by grind
  have e : a / s * s = a := Rat.div_mul_cancel hn
  obtain ⟨h1, h2⟩ := h
  have hc : 0 ≤ c := by grind
  have h3 : c * 1 ≤ c * s := Rat.mul_le_mul_of_nonneg_left hs hc
  constructor
  · refine Rat.le_of_mul_le_mul_right (c := s) ?_ hp
    rw [e]
    grind
  · refine Rat.le_of_mul_le_mul_right (c := s) ?_ hp
    rw [e]
    grind
def KN (H : Rat) : Rat := 240 * H + 11700
theorem rho_in {x s h w : Nat → Rat} {F H : Rat} {N j : Nat} (a : isN x s h w F H N) (hj : j < N) : inQ (rhoQ x s h w F N j) (KN H * (s j + s (j + 1))) := by
  obtain ⟨hX, hs, h0, h12, hw, hh, hF, hF2, hH⟩ := id a
  have s0 := hs j
  have s1 := hs (j + 1)
  have e1 : inQ (d2 s h j) (4 * H) := by
    unfold d2
    refine inQ_le (inQ_sub (div_in (inQ_sub (hh _) (hh _)) s1) (div_in (inQ_sub (hh _) (hh _)) s0)) ?_
    grind
  have e2 : inQ (6 * F * d2 s h j) (120 * (4 * H)) := inQ_mul (by unfold inQ; grind) e1
  have e3 : inQ (sQ (fun p => w p * insQ x s j p) 13) (650 * (6 * (s j + s (j + 1)))) := w_sum hw (fun p _ => ins_in a hj) (by grind)
  have ⟨l0, l1⟩ := han_in a
  have e4 : inQ (if j = 0 then s 0 * hanL x w else 0) (s j * 3900) := by
    split
    · rename_i c
      subst c
      exact inQ_mul (by unfold inQ; grind) l0
    · exact inQ_0 (by grind)
  have e5 : inQ (if j + 1 = N then s N * hanR x w N else 0) (s (j + 1) * 3900) := by
    split
    · rename_i c
      subst c
      exact inQ_mul (by unfold inQ; grind) l1
    · exact inQ_0 (by grind)
  unfold rhoQ
  refine inQ_le (inQ_sub (inQ_sub (inQ_sub e2 e3) e4) e5) ?_
  have e6 : 240 * H * 2 ≤ 240 * H * (s j + s (j + 1)) := Rat.mul_le_mul_of_nonneg_left (by grind) (by grind)
  unfold KN
  grind
theorem mom_in {x s h w T : Nat → Rat} {F H : Rat} {N k : Nat} (a : isN x s h w F H N) (hT : cT s N T) (hk : k ≤ N + 1) : inQ (momQ x s h w T F N k) (KN H) := by
  have hH := a.2.2.2.2.2.2.2.2
  have ⟨l0, l1⟩ := han_in a
  have hK : 3900 ≤ KN H := by unfold KN; grind
  unfold momQ
  split
  · exact inQ_le l0 hK
  · split
    · exact inQ_le l1 hK
    · have hd := (cH_pos a.1.1 N).1
      have e := inv_in (s := s) (T := T) (r := fun j => rhoQ x s h w F N (j - 1)) (N := N) (a := k) (R := KN H) a.1.1 hT (by omega) (by omega) (fun j hj => rho_in a hj) (by grind)
      obtain ⟨e1, e2⟩ := e
      have e3 : sQ (fun j => gE s T k (j + 1) * rhoQ x s h w F N (j + 1 - 1)) N = sQ (fun j => gE s T k (j + 1) * rhoQ x s h w F N j) N := rfl
      rw [e3] at e1 e2
      have hn : cH s (N + 1) ≠ 0 := by grind
      have e4 := Rat.div_mul_cancel (a := sQ (fun j => gE s T k (j + 1) * rhoQ x s h w F N j) N) hn
      constructor
      · refine Rat.le_of_mul_le_mul_right (c := cH s (N + 1)) ?_ hd
        rw [e4]
        grind
      · refine Rat.le_of_mul_le_mul_right (c := cH s (N + 1)) ?_ hd
        rw [e4]
        grind
