/-! the model's sums of fractions: one common denominator D -/
def dtN (pl : Nat → Nat) (n : Nat) : Nat := (cHI (fun k => (spP pl n k : Int)) (n + 1)).toNat
theorem dt_ok {pl : Nat → Nat} {n : Nat} (hP : isP pl n) : cH (spR pl n) (n + 1) = ((dtN pl n : Nat) : Rat) ∧ 1 ≤ dtN pl n ∧ dtN pl n ≤ 35784 := by
  have e0 : spR pl n = fun k => (((spP pl n k : Nat) : Int) : Rat) := funext fun k => (Rat.intCast_natCast _).symm
  have e := cHI_cast (fun k => (spP pl n k : Int)) (n + 1)
  rw [← e0] at e
  have h1 := (cH_pos (fun k => (isP_X hP).1 k) n).1
  have h2 := (D_size hP).1
  rw [e] at h1 h2
  have g1 : (0 : Int) < cHI (fun k => (spP pl n k : Int)) (n + 1) := Rat.intCast_lt_intCast.mp (show ((0 : Int) : Rat) < _ from h1)
  have g2 : cHI (fun k => (spP pl n k : Int)) (n + 1) ≤ 35784 := Rat.intCast_le_intCast.mp (show _ ≤ ((35784 : Int) : Rat) from h2)
  have g3 : ((dtN pl n : Nat) : Int) = cHI (fun k => (spP pl n k : Int)) (n + 1) := by
    unfold dtN
    omega
  refine ⟨?_, by omega, by omega⟩
  rw [e, ← g3, Rat.intCast_natCast]
def PF (L : LM) (m D : Nat) (q : Rat) : Prop := RF (L m 17) (L m 18) q ∧ q.den ∣ D
theorem dv_int {q : Rat} {D : Nat} (h : q.den ∣ D) : ∃ z : Int, (z : Rat) = q * (D : Rat) := by
  obtain ⟨k, rfl⟩ := h
  refine ⟨q.num * k, ?_⟩
  rw [Rat.intCast_mul, Rat.natCast_mul, num_den q, Rat.intCast_natCast]
  grind
theorem int_dv {q : Rat} {D : Nat} (hD : 0 < D) {z : Int} (h : (z : Rat) = q * (D : Rat)) : q.den ∣ D := by
  have := den_dvd (z := z) (d := (D : Int)) (q := q) (by omega) (by rw [Rat.intCast_natCast]; exact h)
  exact this
theorem mk_PF {L : LM} {m D : Nat} {a b : Int64} {q : Rat} (ha : -9223372036854775807 ≤ a.toInt) (hb : b.toInt = 1) (h : (a.toInt : Rat) = q) : ¬ gcdL a b = 0 ∧ PF (mkL L m a b) m D q := by
  have := mk_ok (L := L) (m := m) (a := a) (b := b) (q := q) ha (by omega) (by rw [hb, h]; show q = q * 1; grind)
  refine ⟨this.1, this.2, ?_⟩
  have e : q.den = 1 := by
    rw [← h]
    rfl
  rw [e]
  exact Nat.one_dvd D
theorem ad_PF {L : LM} {m D : Nat} {a b : Int64} {q t : Rat} (hq : PF L m D q) (hb : 0 < b.toInt) (h : (a.toInt : Rat) = t * (b.toInt : Rat)) (hD : 0 < D) (hD2 : D ≤ 150000000000) (hbD : b.toInt.natAbs ∣ D) (hr : inQ (q + t) 60000000) : ¬ gcdL (L m 18) b = 0 ∧ ¬ gcdL (adN L m a b) (adD L m b) = 0 ∧ PF (adL L m a b) m D (q + t) := by
  have hDr : inQ (D : Rat) 150000000000 := by
    have := cast_le hD2
    have e : ((150000000000 : Nat) : Rat) = 150000000000 := rfl
    rw [e] at this
    have h0 : (0 : Rat) ≤ (D : Rat) := cast_le (Nat.zero_le D)
    unfold inQ
    grind
  have hb2 := inQ_le (inQ_mul hr hDr) (show (60000000 : Rat) * 150000000000 ≤ 9223372036854775807 by grind)
  have := ad_ok (L := L) (m := m) (a := a) (b := b) hq.1 hb h hD (by omega) hq.2 hbD hb2
  refine ⟨this.1, this.2.1, this.2.2, ?_⟩
  obtain ⟨z1, e1⟩ := dv_int hq.2
  obtain ⟨k, hk⟩ := hbD
  refine int_dv hD (z := z1 + a.toInt * k) ?_
  rw [Rat.intCast_add, Rat.intCast_mul, e1, h]
  have hk2 : (D : Rat) = (b.toInt : Rat) * ((k : Int) : Rat) := by
    rw [← Rat.intCast_mul, ← Rat.intCast_natCast]
    congr 1
    have : (b.toInt.natAbs : Int) = b.toInt := by omega
    rw [hk, Int.natCast_mul, this]
  rw [hk2]
  grind
def frF (m : Nat) (L L' : LM) : Prop := ∀ a k, (a ≠ m ∨ (k ≠ 17 ∧ k ≠ 18)) → L' a k = L a k
theorem mkL_fr {m : Nat} {L : LM} {a b : Int64} : frF m L (mkL L m a b) := fun c k q => by
  unfold mkL u2
  rw [if_neg (by omega), if_neg (by omega)]
theorem adL_fr {m : Nat} {L : LM} {a b : Int64} : frF m L (adL L m a b) := mkL_fr
theorem frF_t {m : Nat} {L L' L'' : LM} (h1 : frF m L L') (h2 : frF m L' L'') : frF m L L'' := fun c k q => (h2 c k q).trans (h1 c k q)
/-- D of a support -/
def dnN (pl : Nat → Nat) (n i : Nat) : Nat := 27720 * dtN pl n * (spP pl n i * spP pl n (i - 1))
theorem sp_le12 {pl : Nat → Nat} {n : Nat} (hP : isP pl n) (k : Nat) : 1 ≤ spP pl n k ∧ spP pl n k ≤ 12 := by
  refine ⟨spP_pos hP k, ?_⟩
  unfold spP
  split
  · have := isP_le hP (show k + 1 < n + 2 by omega)
    omega
  · omega
theorem dn_ok {pl : Nat → Nat} {n : Nat} (hP : isP pl n) (i : Nat) : 0 < dnN pl n i ∧ dnN pl n i ≤ 150000000000 := by
  obtain ⟨_, h1, h2⟩ := dt_ok hP
  obtain ⟨a1, a2⟩ := sp_le12 hP i
  obtain ⟨b1, b2⟩ := sp_le12 hP (i - 1)
  unfold dnN
  have e1 : spP pl n i * spP pl n (i - 1) ≤ 12 * 12 := Nat.mul_le_mul a2 b2
  have e2 : 1 * 1 ≤ spP pl n i * spP pl n (i - 1) := Nat.mul_le_mul a1 b1
  have e3 : 27720 * dtN pl n * (spP pl n i * spP pl n (i - 1)) ≤ 27720 * 35784 * (12 * 12) := Nat.mul_le_mul (Nat.mul_le_mul (Nat.le_refl _) h2) e1
  have e4 : 27720 * 1 * (1 * 1) ≤ 27720 * dtN pl n * (spP pl n i * spP pl n (i - 1)) := Nat.mul_le_mul (Nat.mul_le_mul (Nat.le_refl _) h1) e2
  omega
theorem dn_d1 {pl : Nat → Nat} {n i k : Nat} (h : k = i ∨ k + 1 = i) : (27720 * dtN pl n * spP pl n k) ∣ dnN pl n i := by
  unfold dnN
  rcases h with rfl | rfl
  · exact ⟨spP pl n (k - 1), by simp only [Nat.mul_assoc]⟩
  · rw [show k + 1 - 1 = k by omega]
    exact ⟨spP pl n (k + 1), by rw [Nat.mul_comm (spP pl n (k + 1))]; simp only [Nat.mul_assoc]⟩
theorem dn_d2 {pl : Nat → Nat} {n i k : Nat} (h : k = i ∨ k + 1 = i) : spP pl n k ∣ dnN pl n i := Nat.dvd_trans ⟨27720 * dtN pl n, by rw [Nat.mul_comm]⟩ (dn_d1 h)
