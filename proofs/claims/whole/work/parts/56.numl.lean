/-! NUMBERS, 12: all that the class works out fits into a long -/
def okB (pl : Nat → Nat) (h w : Nat → Rat) (F H : Rat) (N : Nat) : Prop := isP pl N ∧ (∀ p, p < 13 → 0 ≤ w p ∧ w p ≤ 50) ∧ (∀ k, inQ (h k) H) ∧ 1 ≤ F ∧ F ≤ 20 ∧ 0 ≤ H ∧ H ≤ 90
section NO
variable {pl : Nat → Nat} {h w : Nat → Rat} {F H : Rat} {N : Nat}
theorem okN (a : okB pl h w F H N) : isN (xR' pl) (spR pl N) h w F H N := by
  obtain ⟨hP, hw, hh, f1, f2, h1, h2⟩ := a
  refine ⟨isP_X hP, sp_one hP, p_ge _, ?_, hw, hh, by grind, f2, h1⟩
  have := hP.2.1
  exact p_le (by omega)
theorem le_mul {a b A B : Rat} (ha : 0 ≤ a) (h1 : a ≤ A) (hb : 0 ≤ b) (h2 : b ≤ B) : a * b ≤ A * B := by
  have e1 := Rat.mul_le_mul_of_nonneg_right h1 hb
  have e2 := Rat.mul_le_mul_of_nonneg_left h2 (show 0 ≤ A by grind)
  grind
theorem KM_le (a : okB pl h w F H N) : 0 ≤ KM H ∧ KM H ≤ 35250 := by
  have := a.2.2.2.2.2
  unfold KM
  grind
theorem D_le (hP : isP pl N) : 0 ≤ DQ (spR pl N) N ∧ DQ (spR pl N) N ≤ 204472320 ∧ 0 ≤ DQ (spR pl N) N * spR pl N 0 ∧ DQ (spR pl N) N * spR pl N 0 ≤ 480411648 := by
  have h1 := D_pos hP
  have h2 := D_size hP
  have h3 := sp_one hP 0
  have h4 := Rat.mul_pos h1 (show 0 < spR pl N 0 by grind)
  grind
theorem ex_push (a : okB pl h w F H N) {i : Nat} (hi : i < N + 2) : inQ (DQ (spR pl N) N * ldP pl h w F N i) 30000000000000 := by
  have h1 := ld_in (okN a) (tl_ok _ _) (show i ≤ N + 1 by omega)
  have h2 := KM_le a
  have h3 := D_le a.1
  have h4 := inQ_mul (p := DQ (spR pl N) N) (a := 204472320) (by unfold inQ; grind) h1
  refine inQ_le h4 ?_
  grind
theorem ex_D (a : okB pl h w F H N) : inQ (DQ (spR pl N) N) 204472320 := by
  have h3 := D_le a.1
  unfold inQ
  grind
theorem x01 (hP : isP pl N) {p : Nat} (hp : p < 13) : inQ ((pl 1 : Rat) - p) 12 ∧ inQ ((p : Rat) - pl 0) 12 := by
  have h0 := isP_le hP (show 0 < N + 2 by omega)
  have h1 := isP_le hP (show 1 < N + 2 by omega)
  have a0 := p_le (p := pl 0) (by omega)
  have a1 := p_le (p := pl 1) (by omega)
  have a2 := p_le hp
  have b0 := p_ge (pl 0)
  have b1 := p_ge (pl 1)
  have b2 := p_ge p
  unfold inQ
  grind
theorem tz_in (a : okB pl h w F H N) {p : Nat} (hp : p < 13) : inQ (tzP pl h w F N p) (2880 * H + spR pl N 0 * (792 * KM H)) := by
  have hx := x01 a.1 hp
  have hl := S_line (X := pl) (okN a) (tl_ok _ _) (show p ≤ 12 by omega)
  have hX := isP_X a.1
  have e : (pl 1 : Rat) = (pl 0 : Rat) + spR pl N 0 := hX.2 0 (by omega)
  have f6 : inQ (6 * F) 120 := by
    have := a.2.2.2
    unfold inQ
    grind
  have k0 := inQ_mul (inQ_mul f6 (a.2.2.1 0)) hx.1
  have k1 := inQ_mul (inQ_mul f6 (a.2.2.1 1)) hx.2
  have e1 : (pl 1 : Rat) - pl 0 = spR pl N 0 := by grind
  rw [e1] at hl
  have e2 : tzP pl h w F N p = 6 * F * h 0 * ((pl 1 : Rat) - p) + 6 * F * h 1 * (p - pl 0) + (spR pl N 0 * (SP pl h w F N p - SP pl h w F N (pl 0)) - ((p : Rat) - pl 0) * (SP pl h w F N (pl 1) - SP pl h w F N (pl 0))) := by
    unfold tzP
    have : (pl 1 : Rat) - p = spR pl N 0 - ((p : Rat) - pl 0) := by grind
    rw [this]
    grind
  rw [e2]
  refine inQ_le (inQ_add (inQ_add k0 k1) hl) ?_
  grind
theorem ex_hei (a : okB pl h w F H N) {p : Nat} (hp : p < 13) : inQ (DQ (spR pl N) N * tzP pl h w F N p) (204472320 * (2880 * H) + 480411648 * (792 * KM H)) := by
  have h1 := tz_in a hp
  have h2 := KM_le a
  have h3 := D_le a.1
  have h5 := a.2.2.2.2.2
  have h4 := inQ_mul (p := DQ (spR pl N) N) (a := DQ (spR pl N) N) (by unfold inQ; grind) h1
  refine inQ_le h4 ?_
  have k1 := le_mul h3.1 h3.2.1 (show 0 ≤ 2880 * H by grind) (Rat.le_refl)
  have k2 := le_mul h3.2.2.1 h3.2.2.2 (show 0 ≤ 792 * KM H by grind) (Rat.le_refl)
  grind
theorem ex_hei1 (a : okB pl h w F H N) {p : Nat} (hp : p < 13) : inQ (DQ (spR pl N) N * tzP pl h w F N p) 15000000000000000 := by
  refine inQ_le (ex_hei a hp) ?_
  have h2 := KM_le a
  have h5 := a.2.2.2.2.2
  grind
theorem ex_hei0 (a : okB pl h w F H N) (h0 : H = 0) {p : Nat} (hp : p < 13) : inQ (DQ (spR pl N) N * tzP pl h w F N p) 5300000000000000 := by
  refine inQ_le (ex_hei a hp) ?_
  subst h0
  unfold KM
  grind
theorem ex_hb (a : okB pl h w F H N) : inQ (6 * F * spR pl N 0 * DQ (spR pl N) N) 57649397760 := by
  have h3 := D_le a.1
  have h5 := a.2.2.2
  have e : 6 * F * spR pl N 0 * DQ (spR pl N) N = 6 * F * (DQ (spR pl N) N * spR pl N 0) := by grind
  rw [e]
  have h4 := le_mul (a := 6 * F) (A := 120) (by grind) (by grind) h3.2.2.1 h3.2.2.2
  have h6 := Rat.mul_nonneg (show 0 ≤ 6 * F by grind) h3.2.2.1
  unfold inQ
  grind
theorem hb_pos (a : okB pl h w F H N) : 0 < 6 * F * spR pl N 0 * DQ (spR pl N) N := by
  have h3 := D_pos a.1
  have h5 := a.2.2.2
  have h6 := sp_one a.1 0
  exact Rat.mul_pos (Rat.mul_pos (by grind) (by grind)) h3
theorem ex_sle (a : okB pl h w F H N) {p : Nat} (hp : p < 13) : inQ (DQ (spR pl N) N * slP pl h w F N p) 20000000000000000 := by
  have h2 := KM_le a
  have h3 := D_le a.1
  have h5 := a.2.2.2
  have f6 : inQ (6 * F) 120 := by
    unfold inQ
    grind
  have n := okN a
  have p0 := isP_le a.1 (show 0 < N + 2 by omega)
  have p1 := isP_le a.1 (show 1 < N + 2 by omega)
  have hs : inQ (3 * spR pl N 0) 36 := by
    have := isN_s n (show 0 ≤ N by omega)
    have := sp_one a.1 0
    unfold inQ
    grind
  have q : inQ (QP pl h w F N p) (24 * KM H) := by
    refine inQ_le (q_in (X := pl) n (tl_ok _ _) p (by omega)) ?_
    have := p_le hp
    have := Rat.mul_le_mul_of_nonneg_right this h2.1
    grind
  have k0 := inQ_sub (inQ_mul f6 (a.2.2.1 0)) (S_in (X := pl) n (tl_ok _ _) p0)
  have k1 := inQ_sub (inQ_mul f6 (a.2.2.1 1)) (S_in (X := pl) n (tl_ok _ _) p1)
  have k := inQ_add (inQ_sub k1 k0) (inQ_mul hs q)
  have h4 := inQ_mul (p := DQ (spR pl N) N) (a := 204472320) (by unfold inQ; grind) k
  refine inQ_le h4 ?_
  grind
end NO
