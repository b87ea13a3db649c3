/-! WHIRL's depths; a coupling's fractions -/
section DEP
variable {I : IM} {L : LM} {b N : Nat} {pl : Nat → Nat} {h w : Nat → Rat} {F H : Rat}
theorem dep_ok (hB : okB pl h w F 0 N) (hO : SolO I L b N pl h w F) {p : Nat} (hp : p < 13) : cutL (-1000 * heiL I L b (N + 2) (nI p) p (pl 0) (pl 1)) (hbL L b) = depQ (tzP pl h w F N p / (6 * F * spR pl N 0)) := by
  have hx := hei_get hB hO hp
  have e1 := RI_get (hei_RI hB.1 hO hp).1 (inQ_le (ex_hei1 hB hp) (by grind))
  refine cut_dep hx.1 hx.2.2.1 ?_
  rw [e1]
  exact inQ_le (ex_hei0 hB rfl hp) (by grind)
end DEP
theorem whO_congr {W V : Nat → Int32} {y z : Nat → Int64} : ∀ n, (∀ p, p < n → W p = V p ∧ y p = z p) → whO W y n = whO V z n ∧ whT W y n = whT V z n
  | 0, _ => ⟨rfl, rfl⟩
  | n + 1, h => by
    have ih := whO_congr n (fun p hp => h p (by omega))
    have e := h n (by omega)
    simp only [whO, whT, ih.1, ih.2, e.1, e.2]
    exact ⟨trivial, trivial⟩
theorem whA_congr {W V : Nat → Int32} {y z : Nat → Int64} (h : ∀ p, p < 13 → W p = V p ∧ y p = z p) : whA W y = whA V z := by
  unfold whA
  rw [(whO_congr 13 h).1, (whO_congr 13 h).2]
/-- determinants' sizes by the length that they span -/
def chkS : Nat → Nat → Int → Int → Int → Int → Int → Nat → Bool
  | 0, _, _, b, _, s0, W, S => decide (b * W * W * s0 * s0 ≤ ((6 ^ S : Nat) : Int))
  | f + 1, rem, a, b, l, s0, W, S => decide (b * W * W * s0 * s0 ≤ ((6 ^ S : Nat) : Int)) && (List.range rem).all (fun t => chkS f (rem - (t + 1)) b (2 * (l + (t + 1 : Nat)) * b - l * l * a) (t + 1 : Nat) s0 (W * (t + 1 : Nat)) (S + (t + 1)))
theorem chkS_all : (List.range 12).all (fun t => chkS 5 (12 - (t + 1)) 0 1 (t + 1 : Nat) (t + 1 : Nat) (1 * (t + 1 : Nat)) (t + 1)) = true := by decide +kernel
def smN (s : Nat → Nat) (k : Nat) : Nat → Nat
  | 0 => 0
  | m + 1 => smN s k m + s (k + m)
theorem smN_left {s : Nat → Nat} {k : Nat} : ∀ m, smN s k (m + 1) = s k + smN s (k + 1) m
  | 0 => by simp [smN]
  | m + 1 => by
    have h := smN_left (s := s) (k := k) m
    show smN s k (m + 1) + s (k + (m + 1)) = s k + (smN s (k + 1) m + s (k + 1 + m))
    rw [h, show k + (m + 1) = k + 1 + m by omega]
    omega
theorem chkS_ok {s : Nat → Nat} (hs : ∀ k, 1 ≤ s k) : ∀ (f k rem m S : Nat), m ≤ f → smN s (k + 1) m ≤ rem → chkS f rem (cHI (fun j => (s j : Int)) k) (cHI (fun j => (s j : Int)) (k + 1)) (s k) (s 0) (prI (fun j => (s j : Int)) (k + 1)) S = true → cHI (fun j => (s j : Int)) (k + m + 1) * prI (fun j => (s j : Int)) (k + m + 1) * prI (fun j => (s j : Int)) (k + m + 1) * (s 0 : Int) * (s 0 : Int) ≤ ((6 ^ (S + smN s (k + 1) m) : Nat) : Int)
  | 0, k, rem, m, S, hm, _, h => by
    have : m = 0 := by omega
    subst this
    exact of_decide_eq_true h
  | f + 1, k, rem, m, S, hm, hr, h => by
    simp only [chkS, Bool.and_eq_true] at h
    cases m with
    | zero => exact of_decide_eq_true h.1
    | succ m =>
      rw [smN_left] at hr ⊢
      have h1 := hs (k + 1)
      obtain ⟨t, ht⟩ : ∃ t : Nat, s (k + 1) = t + 1 := ⟨s (k + 1) - 1, by omega⟩
      have h3 := List.all_eq_true.mp h.2 t (by rw [List.mem_range]; omega)
      rw [← ht] at h3
      have e : k + (m + 1) + 1 = k + 1 + m + 1 := by omega
      have e2 : S + (s (k + 1) + smN s (k + 1 + 1) m) = S + s (k + 1) + smN s (k + 1 + 1) m := by omega
      rw [e, e2]
      exact chkS_ok hs f (k + 1) (rem - s (k + 1)) m (S + s (k + 1)) (by omega) (by omega) h3
theorem D_span {pl : Nat → Nat} {N : Nat} (h : isP pl N) : DQ (spR pl N) N * spR pl N 0 ≤ ((6 ^ (pl (N + 1) - pl 0) : Nat) : Rat) := by
  have hsum : ∀ m, m ≤ N + 1 → pl 0 + smN (spP pl N) 0 m = pl m := by
    intro m
    induction m with
    | zero => intro _; rfl
    | succ m ih =>
      intro hm
      have ih := ih (by omega)
      have h1 := h.2.2 m (by omega)
      have e : spP pl N m = pl (m + 1) - pl m := if_pos (by omega)
      show pl 0 + (smN (spP pl N) 0 m + spP pl N (0 + m)) = _
      rw [Nat.zero_add, e]
      omega
  have h2 := hsum (N + 1) (Nat.le_refl _)
  have h3 := h.2.1
  rw [smN_left] at h2
  obtain ⟨t, ht⟩ : ∃ t : Nat, spP pl N 0 = t + 1 := ⟨spP pl N 0 - 1, by have := spP_pos h 0; omega⟩
  have h4 := List.all_eq_true.mp chkS_all t (by rw [List.mem_range]; omega)
  rw [← ht] at h4
  have h5 := chkS_ok (s := spP pl N) (spP_pos h) 5 0 (12 - spP pl N 0) N (spP pl N 0) h.1 (by rw [Nat.zero_add]; rw [Nat.zero_add] at h2; omega) h4
  rw [Nat.zero_add] at h5
  have e5 : spP pl N 0 + smN (spP pl N) (0 + 1) N = pl (N + 1) - pl 0 := by omega
  rw [e5] at h5
  have e1 : cH (spR pl N) (N + 1) = ((cHI (fun k => (spP pl N k : Int)) (N + 1) : Int) : Rat) := cHI_cast (fun k => (spP pl N k : Int)) (N + 1)
  have e2 : prQ (spR pl N) (N + 1) = ((prI (fun k => (spP pl N k : Int)) (N + 1) : Int) : Rat) := prI_cast (fun k => (spP pl N k : Int)) (N + 1)
  have e3 : spR pl N 0 = ((spP pl N 0 : Int) : Rat) := rfl
  unfold DQ
  rw [e1, e2, e3]
  simp only [← Rat.intCast_mul]
  exact Rat.intCast_le_intCast.mpr h5
theorem den_dvd {z d : Int} {q : Rat} (hd : 0 < d) (h : (z : Rat) = q * (d : Rat)) : q.den ∣ d.natAbs := by
  obtain ⟨_, e2⟩ := rat_of hd h
  obtain ⟨g0, g1, g2⟩ := gcd_dv (a := z) hd
  have : (q.den : Int) ∣ d := by
    obtain ⟨v, hv⟩ := g2
    have n2 : (q.den : Int) = v := by rw [e2]; exact Int.ediv_eq_of_eq_mul_right (by omega) hv
    rw [n2]
    exact ⟨(Int.gcd z d : Int), by rw [Int.mul_comm]; exact hv⟩
  have := Int.natAbs_dvd_natAbs.mpr this
  rwa [Int.natAbs_natCast] at this
/-- Fraction.takeAway -/
theorem tk_ok {L : LM} {b c D : Nat} {q1 q2 : Rat} (h1 : RF (L b 0) (L b 1) q1) (h2 : RF (L c 0) (L c 1) q2) (hD : 0 < D) (hD2 : D < 281474976710656) (d1 : q1.den ∣ D) (d2 : q2.den ∣ D) (hr : inQ ((q1 - q2) * D) 9223372036854775807) : RF (tkL L b c b 0) (tkL L b c b 1) (q1 - q2) := by
  obtain ⟨a1, a2⟩ := h1
  obtain ⟨b1, b2⟩ := h2
  have p1 := q1.den_pos
  have p2 := q2.den_pos
  have l1 := Nat.le_of_dvd hD d1
  have l2 := Nat.le_of_dvd hD d2
  have hg := euc100 (a := L b 1) (b := L c 1) (by omega) (by omega) (by omega)
  obtain ⟨g0, g1, g2⟩ := gcd_dv (a := (L b 1).toInt) (b := (L c 1).toInt) (by omega)
  have hne : ¬ euc 100 (absL (L b 1)) (absL (L c 1)) = 0 := by
    intro e
    rw [e, zL] at hg
    omega
  have e1 : (cutL (L c 1) (euc 100 (absL (L b 1)) (absL (L c 1)))).toInt = (L c 1).toInt / (Int.gcd (L b 1).toInt (L c 1).toInt : Int) := by
    unfold cutL
    rw [if_neg hne, divL_ok (by rw [hg]; exact g0) (by rw [hg]; exact g2), hg]
  have e2 : (cutL (L b 1) (euc 100 (absL (L b 1)) (absL (L c 1)))).toInt = (L b 1).toInt / (Int.gcd (L b 1).toInt (L c 1).toInt : Int) := by
    unfold cutL
    rw [if_neg hne, divL_ok (by rw [hg]; exact g0) (by rw [hg]; exact g1), hg]
  obtain ⟨u, hu⟩ := g1
  obtain ⟨v, hv⟩ := g2
  have hl : (L b 1).toInt * v = (Int.lcm (L b 1).toInt (L c 1).toInt : Int) := by
    have e := Int.gcd_mul_lcm (L b 1).toInt (L c 1).toInt
    have e2 : ((Int.gcd (L b 1).toInt (L c 1).toInt * Int.lcm (L b 1).toInt (L c 1).toInt : Nat) : Int) = (L b 1).toInt * (L c 1).toInt := by
      rw [e, Int.natCast_mul]
      have k1 : ((L b 1).toInt.natAbs : Int) = (L b 1).toInt := by omega
      have k2 : ((L c 1).toInt.natAbs : Int) = (L c 1).toInt := by omega
      rw [k1, k2]
    rw [Int.natCast_mul] at e2
    have e3 : (Int.gcd (L b 1).toInt (L c 1).toInt : Int) * ((L b 1).toInt * v) = (Int.gcd (L b 1).toInt (L c 1).toInt : Int) * (Int.lcm (L b 1).toInt (L c 1).toInt : Int) := by
      rw [e2]
      have : (L b 1).toInt * (L c 1).toInt = (L b 1).toInt * ((Int.gcd (L b 1).toInt (L c 1).toInt : Int) * v) := by rw [← hv]
      rw [this]
      exact Int.mul_left_comm _ _ _
    exact Int.eq_of_mul_eq_mul_left (by omega) e3
  have f1 : (cutL (L c 1) (euc 100 (absL (L b 1)) (absL (L c 1)))).toInt = v := by rw [e1]; exact Int.ediv_eq_of_eq_mul_right (by omega) hv
  have f2 : (cutL (L b 1) (euc 100 (absL (L b 1)) (absL (L c 1)))).toInt = u := by rw [e2]; exact Int.ediv_eq_of_eq_mul_right (by omega) hu
  have hlD : Int.lcm (L b 1).toInt (L c 1).toInt ∣ D := Int.lcm_dvd (by rw [a2]; exact Int.natCast_dvd_natCast.mpr d1) (by rw [b2]; exact Int.natCast_dvd_natCast.mpr d2)
  have hlp : 0 < Int.lcm (L b 1).toInt (L c 1).toInt := Int.lcm_pos (by omega) (by omega)
  have hlle := Nat.le_of_dvd hD hlD
  have huv : (L b 1).toInt * v = u * (L c 1).toInt := by
    have k1 : (L b 1).toInt * v = (Int.gcd (L b 1).toInt (L c 1).toInt : Int) * u * v := by rw [← hu]
    have k2 : u * (L c 1).toInt = u * ((Int.gcd (L b 1).toInt (L c 1).toInt : Int) * v) := by rw [← hv]
    rw [k1, k2]
    grind
  have hden : RI (L b 1 * cutL (L c 1) (euc 100 (absL (L b 1)) (absL (L c 1)))) ((Int.lcm (L b 1).toInt (L c 1).toInt : Nat) : Rat) := by
    refine RI_eq (RI_mul (RI_64 _) (RI_64 _)) ?_
    rw [f1, ← Rat.intCast_mul, hl]
    rfl
  have hnum : RI (L b 0 * cutL (L c 1) (euc 100 (absL (L b 1)) (absL (L c 1))) - L c 0 * cutL (L b 1) (euc 100 (absL (L b 1)) (absL (L c 1)))) ((q1 - q2) * ((Int.lcm (L b 1).toInt (L c 1).toInt : Nat) : Rat)) := by
    refine RI_eq (RI_sub (RI_mul (RI_64 _) (RI_64 _)) (RI_mul (RI_64 _) (RI_64 _))) ?_
    rw [f1, f2, a1, b1, num_den q1, num_den q2]
    have k1 : ((Int.lcm (L b 1).toInt (L c 1).toInt : Nat) : Rat) = (q1.den : Rat) * (v : Rat) := by
      have : ((q1.den : Int) : Rat) = (q1.den : Rat) := rfl
      rw [← this, ← a2, ← Rat.intCast_mul, hl]
      rfl
    have k2 : ((Int.lcm (L b 1).toInt (L c 1).toInt : Nat) : Rat) = (u : Rat) * (q2.den : Rat) := by
      have : ((q2.den : Int) : Rat) = (q2.den : Rat) := rfl
      rw [← this, ← b2, ← Rat.intCast_mul, ← huv, hl]
      rfl
    grind
  have c1 : ((Int.lcm (L b 1).toInt (L c 1).toInt : Nat) : Rat) ≤ (D : Rat) := cast_le hlle
  have c0 : (0 : Rat) < ((Int.lcm (L b 1).toInt (L c 1).toInt : Nat) : Rat) := cast_lt (a := 0) hlp
  have hN2 : inQ ((q1 - q2) * ((Int.lcm (L b 1).toInt (L c 1).toInt : Nat) : Rat)) 9223372036854775807 := by
    obtain ⟨r1, r2⟩ := hr
    rcases Rat.le_total (a := 0) (b := q1 - q2) with z | z
    · have k1 := Rat.mul_le_mul_of_nonneg_left c1 z
      have k2 := Rat.mul_nonneg z (show 0 ≤ ((Int.lcm (L b 1).toInt (L c 1).toInt : Nat) : Rat) by grind)
      unfold inQ
      constructor <;> grind
    · have z : 0 ≤ -(q1 - q2) := by grind
      have k1 := Rat.mul_le_mul_of_nonneg_left c1 z
      have k2 := Rat.mul_nonneg z (show 0 ≤ ((Int.lcm (L b 1).toInt (L c 1).toInt : Nat) : Rat) by grind)
      unfold inQ
      constructor <;> grind
  have x1 := RI_get hnum hN2
  have x2 := RI_get hden (by
    have : (D : Rat) ≤ ((9223372036854775807 : Nat) : Rat) := cast_le (by omega)
    have e9 : ((9223372036854775807 : Nat) : Rat) = 9223372036854775807 := rfl
    unfold inQ
    constructor <;> grind)
  have x3 : (L b 1 * cutL (L c 1) (euc 100 (absL (L b 1)) (absL (L c 1)))).toInt = ((Int.lcm (L b 1).toInt (L c 1).toInt : Nat) : Int) := Rat.intCast_inj.mp x2
  have x4 : -9223372036854775807 ≤ (L b 0 * cutL (L c 1) (euc 100 (absL (L b 1)) (absL (L c 1))) - L c 0 * cutL (L b 1) (euc 100 (absL (L b 1)) (absL (L c 1)))).toInt := by
    have := hN2.1
    rw [← x1] at this
    have this : ((-9223372036854775807 : Int) : Rat) ≤ _ := this
    exact Rat.intCast_le_intCast.mp this
  exact be_ok (L := L) (b := b) x4 (by rw [x3]; omega) (by rw [x3]; omega) (by rw [x1, x2])
