/-! FRACTIONS in the machine: Euclid's way, reduced forms, sums -/
theorem zL : (0 : Int64).toInt = 0 := rfl
theorem euc_k {x y : Int64} {a b : Nat} (hx : x.toInt = a) (hy : y.toInt = b) (hb : ¬ b = 0) : ¬ y = 0 ∧ (x - x / y * y).toInt = ((a % b : Nat) : Int) := by
  have h : ¬ y = 0 := fun e => by
    rw [e, zL] at hy
    omega
  refine ⟨h, ?_⟩
  rw [remL_toInt x y h, hx, hy]
  exact (Int.ofNat_tmod a b).symm
theorem euc_nat : ∀ (n : Nat) (x y : Int64) (a b : Nat), x.toInt = a → y.toInt = b → b ≤ n → (euc n x y).toInt = ((Nat.gcd a b : Nat) : Int)
  | 0, x, y, a, b, hx, hy, hn => by
    have : b = 0 := by omega
    subst this
    rw [Nat.gcd_zero_right]
    exact hx
  | n + 1, x, y, a, b, hx, hy, hn => by
    by_cases c : b = 0
    · subst c
      rw [Nat.gcd_zero_right, euc_0 (Int64.toInt_inj.mp hy)]
      exact hx
    · obtain ⟨h1, h2⟩ := euc_k hx hy c
      show (if y = 0 then x else euc n y (x - x / y * y)).toInt = _
      have hl := Nat.mod_lt a (show 0 < b by omega)
      rw [if_neg h1, euc_nat n y _ b (a % b) hy h2 (by omega), Nat.gcd_comm a b, Nat.gcd_rec b a, Nat.gcd_comm]
theorem euc_half : ∀ (k m : Nat) (x y : Int64) (a b : Nat), x.toInt = a → y.toInt = b → b < 2 ^ k → 2 * k + 1 ≤ m → (euc m x y).toInt = ((Nat.gcd a b : Nat) : Int)
  | 0, m, x, y, a, b, hx, hy, hb, _ => by
    have : b = 0 := by omega
    subst this
    rw [Nat.gcd_zero_right, euc_0 (Int64.toInt_inj.mp hy)]
    exact hx
  | k + 1, m, x, y, a, b, hx, hy, hb, hm => by
    obtain ⟨m, rfl⟩ : ∃ j, m = j + 2 := ⟨m - 2, by omega⟩
    by_cases c : b = 0
    · subst c
      rw [Nat.gcd_zero_right, euc_0 (Int64.toInt_inj.mp hy)]
      exact hx
    · obtain ⟨h1, h2⟩ := euc_k hx hy c
      show (if y = 0 then x else euc (m + 1) y (x - x / y * y)).toInt = _
      rw [if_neg h1]
      have hl := Nat.mod_lt a (show 0 < b by omega)
      have hg : Nat.gcd a b = Nat.gcd b (a % b) := by rw [Nat.gcd_comm a b, Nat.gcd_rec b a, Nat.gcd_comm]
      by_cases d : a % b = 0
      · rw [d] at h2
        rw [euc_0 (Int64.toInt_inj.mp h2), hg, d, Nat.gcd_zero_right]
        exact hy
      · obtain ⟨h3, h4⟩ := euc_k hy h2 d
        show (if (x - x / y * y) = 0 then y else euc m (x - x / y * y) (y - y / (x - x / y * y) * (x - x / y * y))).toInt = _
        rw [if_neg h3]
        have hl2 := Nat.mod_lt b (show 0 < a % b by omega)
        have hq : b % (a % b) < 2 ^ k := by
          have e := Nat.mod_add_div b (a % b)
          have e2 : 1 ≤ b / (a % b) := Nat.div_pos (by omega) (by omega)
          have e3 : a % b * 1 ≤ a % b * (b / (a % b)) := Nat.mul_le_mul_left _ e2
          have e4 : 2 ^ (k + 1) = 2 * 2 ^ k := by rw [Nat.pow_succ]; omega
          omega
        rw [euc_half k m _ _ (a % b) (b % (a % b)) h2 h4 hq (by omega), hg, Nat.gcd_comm b, Nat.gcd_rec (a % b) b, Nat.gcd_comm]
theorem absL_ok {x : Int64} (h : -9223372036854775807 ≤ x.toInt) : (absL x).toInt = (x.toInt.natAbs : Int) := by
  have hb := Int64.toInt_lt x
  rcases Int.lt_or_le x.toInt 0 with c | c
  · rw [absL_lt c, Int64.toInt_neg, Int.bmod_eq_of_le (by omega) (by omega)]
    omega
  · rw [absL_ge c]
    omega
theorem gcdL_ok {a b : Int64} (ha : -9223372036854775807 ≤ a.toInt) (hb : -9223372036854775807 ≤ b.toInt) : (gcdL a b).toInt = ((Int.gcd a.toInt b.toInt : Nat) : Int) := by
  unfold gcdL
  rw [euc_nat _ _ _ a.toInt.natAbs b.toInt.natAbs (absL_ok ha) (absL_ok hb) (by rw [absL_ok hb]; omega)]
  rfl
theorem euc100 {a b : Int64} (ha : -9223372036854775807 ≤ a.toInt) (h1 : 0 ≤ b.toInt) (h2 : b.toInt < 281474976710656) : (euc 100 (absL a) (absL b)).toInt = ((Int.gcd a.toInt b.toInt : Nat) : Int) := by
  rw [euc_half 48 100 _ _ a.toInt.natAbs b.toInt.natAbs (absL_ok ha) (absL_ok (by omega)) (by omega) (by omega)]
  rfl
theorem divL_ok {a g : Int64} (hg : 0 < g.toInt) (hd : g.toInt ∣ a.toInt) : (a / g).toInt = a.toInt / g.toInt := by
  rw [Int64.toInt_div_of_ne_right a g (fun e => by
    rw [e] at hg
    exact absurd hg (by decide)), Int.tdiv_eq_ediv_of_dvd hd]
/-- x over y is the reduced form of q -/
def RF (x y : Int64) (q : Rat) : Prop := x.toInt = q.num ∧ y.toInt = (q.den : Int)
theorem rat_of {a b : Int} {q : Rat} (hb : 0 < b) (h : (a : Rat) = q * b) : q.num = a / (Int.gcd a b : Int) ∧ (q.den : Int) = b / (Int.gcd a b : Int) := by
  have hn : (b : Rat) ≠ 0 := by
    intro e
    have := Rat.intCast_eq_zero_iff.mp e
    omega
  have e : q = Rat.divInt a b := by
    rw [Rat.divInt_eq_div, h]
    grind
  subst e
  have h1 := Rat.num_divInt a b
  have h2 := Rat.den_divInt a b
  rw [if_neg (by omega)] at h2
  have h3 : b.sign = 1 := Int.sign_eq_one_of_pos hb
  rw [h3, Int.one_mul, Int.gcd_comm] at h1
  refine ⟨h1, ?_⟩
  rw [h2, Int.gcd_comm, Int.natCast_ediv]
  congr 1
  omega
theorem gcd_dv {a b : Int} (hb : 0 < b) : 0 < ((Int.gcd a b : Nat) : Int) ∧ ((Int.gcd a b : Nat) : Int) ∣ a ∧ ((Int.gcd a b : Nat) : Int) ∣ b := by
  refine ⟨?_, Int.gcd_dvd_left .., Int.gcd_dvd_right ..⟩
  have : 0 < Int.gcd a b := Int.gcd_pos_of_ne_zero_right a (by omega)
  omega
theorem rf_of {a b g : Int64} {q : Rat} (hg : g.toInt = ((Int.gcd a.toInt b.toInt : Nat) : Int)) (hb : 0 < b.toInt) (h : (a.toInt : Rat) = q * (b.toInt : Rat)) : RF (a / g) (b / g) q := by
  obtain ⟨h1, h2, h3⟩ := gcd_dv (a := a.toInt) hb
  obtain ⟨e1, e2⟩ := rat_of hb h
  refine ⟨?_, ?_⟩
  · rw [divL_ok (by rw [hg]; exact h1) (by rw [hg]; exact h2), hg, e1]
  · rw [divL_ok (by rw [hg]; exact h1) (by rw [hg]; exact h3), hg, e2]
/-- Fraction.become -/
theorem be_ok {L : LM} {b : Nat} {x z : Int64} {q : Rat} (hx : -9223372036854775807 ≤ x.toInt) (h1 : 0 < z.toInt) (h2 : z.toInt < 281474976710656) (h : (x.toInt : Rat) = q * (z.toInt : Rat)) : RF (beL L b x z b 0) (beL L b x z b 1) q := by
  have hg := euc100 hx (by omega) h2
  have hne : ¬ euc 100 (absL x) (absL z) = 0 := by
    intro e
    rw [e, zL] at hg
    have := (gcd_dv (a := x.toInt) h1).1
    omega
  have := rf_of hg h1 h
  unfold beL
  rw [u2_n2 (by decide), u2_s, u2_s]
  unfold cutL
  rw [if_neg hne, if_neg hne]
  exact this
/-- the model's makes -/
theorem mk_ok {L : LM} {m : Nat} {a b : Int64} {q : Rat} (ha : -9223372036854775807 ≤ a.toInt) (hb : 0 < b.toInt) (h : (a.toInt : Rat) = q * (b.toInt : Rat)) : ¬ gcdL a b = 0 ∧ RF (mkL L m a b m 17) (mkL L m a b m 18) q := by
  have hg := gcdL_ok ha (b := b) (by omega)
  have hne : ¬ gcdL a b = 0 := by
    intro e
    rw [e, zL] at hg
    have := (gcd_dv (a := a.toInt) hb).1
    omega
  refine ⟨hne, ?_⟩
  unfold mkL mkBy
  rw [u2_n2 (by decide), u2_s, u2_s, if_neg (by omega)]
  exact rf_of hg hb h
theorem num_den (q : Rat) : (q.num : Rat) = q * (q.den : Rat) := by
  have h := Rat.num_divInt_den q
  rw [Rat.divInt_eq_div] at h
  have hn : ((q.den : Int) : Rat) ≠ 0 := by
    intro e
    have := Rat.intCast_eq_zero_iff.mp e
    have := q.den_pos
    omega
  have e : ((q.den : Int) : Rat) = (q.den : Rat) := rfl
  rw [e] at h hn
  grind
/-- the model's adds: all in range if a common divisor D of both is small enough -/
theorem ad_ok {L : LM} {m D : Nat} {a b : Int64} {q t : Rat} (hq : RF (L m 17) (L m 18) q) (hb : 0 < b.toInt) (h : (a.toInt : Rat) = t * (b.toInt : Rat)) (hD : 0 < D) (hD2 : D < 9223372036854775807) (hqD : q.den ∣ D) (hbD : b.toInt.natAbs ∣ D) (hr : inQ ((q + t) * D) 9223372036854775807) : ¬ gcdL (L m 18) b = 0 ∧ ¬ gcdL (adN L m a b) (adD L m b) = 0 ∧ RF (adL L m a b m 17) (adL L m a b m 18) (q + t) := by
  obtain ⟨hq1, hq2⟩ := hq
  have hdp := q.den_pos
  have hg := gcdL_ok (a := L m 18) (b := b) (by omega) (by omega)
  obtain ⟨g0, g1, g2⟩ := gcd_dv (a := (L m 18).toInt) hb
  have hne : ¬ gcdL (L m 18) b = 0 := by
    intro e
    rw [e, zL] at hg
    omega
  have d1 : (b / gcdL (L m 18) b).toInt = b.toInt / (Int.gcd (L m 18).toInt b.toInt : Int) := by rw [divL_ok (by rw [hg]; exact g0) (by rw [hg]; exact g2), hg]
  have d2 : (L m 18 / gcdL (L m 18) b).toInt = (L m 18).toInt / (Int.gcd (L m 18).toInt b.toInt : Int) := by rw [divL_ok (by rw [hg]; exact g0) (by rw [hg]; exact g1), hg]
  obtain ⟨u, hu⟩ := g1
  obtain ⟨v, hv⟩ := g2
  have hG : (Int.gcd (L m 18).toInt b.toInt : Int) ≠ 0 := by omega
  have d3 : (b / gcdL (L m 18) b).toInt = v := by rw [d1]; exact Int.ediv_eq_of_eq_mul_right hG hv
  have d4 : (L m 18 / gcdL (L m 18) b).toInt = u := by rw [d2]; exact Int.ediv_eq_of_eq_mul_right hG hu
  clear d1 d2
  generalize hGe : (Int.gcd (L m 18).toInt b.toInt : Int) = G at *
  -- the common multiple
  have hl : u * b.toInt = (Int.lcm (L m 18).toInt b.toInt : Int) := by
    have e := Int.gcd_mul_lcm (L m 18).toInt b.toInt
    have e2 : ((Int.gcd (L m 18).toInt b.toInt * Int.lcm (L m 18).toInt b.toInt : Nat) : Int) = (L m 18).toInt * b.toInt := by
      rw [e, Int.natCast_mul]
      have k1 : ((L m 18).toInt.natAbs : Int) = (L m 18).toInt := by omega
      have k2 : (b.toInt.natAbs : Int) = b.toInt := by omega
      rw [k1, k2]
    rw [Int.natCast_mul, hGe] at e2
    have e3 : G * (u * b.toInt) = G * (Int.lcm (L m 18).toInt b.toInt : Int) := by
      rw [e2, ← Int.mul_assoc, ← hu]
    exact Int.eq_of_mul_eq_mul_left hG e3
  have hlD : Int.lcm (L m 18).toInt b.toInt ∣ D := Int.lcm_dvd (by rw [hq2]; exact Int.natCast_dvd_natCast.mpr hqD) (by
    have : b.toInt = (b.toInt.natAbs : Int) := by omega
    rw [this]
    exact Int.natCast_dvd_natCast.mpr hbD)
  have hlp : 0 < Int.lcm (L m 18).toInt b.toInt := Int.lcm_pos (by omega) (by omega)
  have hlle := Nat.le_of_dvd hD hlD
  have hlRI : RI (adD L m b) ((Int.lcm (L m 18).toInt b.toInt : Nat) : Rat) := by
    unfold adD
    refine RI_eq (RI_mul (RI_64 _) (RI_64 b)) ?_
    rw [d4, ← Rat.intCast_mul, hl]
    rfl
  have hNI : RI (adN L m a b) ((q + t) * ((Int.lcm (L m 18).toInt b.toInt : Nat) : Rat)) := by
    unfold adN
    refine RI_eq (RI_add (RI_mul (RI_64 (L m 17)) (RI_64 _)) (RI_mul (RI_64 a) (RI_64 _))) ?_
    rw [d3, d4, h, hq1, num_den q]
    have e1 : ((Int.lcm (L m 18).toInt b.toInt : Nat) : Rat) = (u : Rat) * (b.toInt : Rat) := by
      rw [← Rat.intCast_mul, hl]
      rfl
    have e2 : (q.den : Rat) * (v : Rat) = (u : Rat) * (b.toInt : Rat) := by
      have : ((q.den : Int) : Rat) = (q.den : Rat) := rfl
      rw [← this, ← hq2, ← Rat.intCast_mul, ← Rat.intCast_mul]
      congr 1
      have k1 : (L m 18).toInt * v = G * u * v := by rw [← hu]
      have k2 : u * b.toInt = u * (G * v) := by rw [← hv]
      rw [k1, k2]
      grind
    rw [e1]
    grind
  have c1 : ((Int.lcm (L m 18).toInt b.toInt : Nat) : Rat) ≤ (D : Rat) := cast_le hlle
  have c0 : (0 : Rat) < ((Int.lcm (L m 18).toInt b.toInt : Nat) : Rat) := cast_lt (a := 0) hlp
  have hN2 : inQ ((q + t) * ((Int.lcm (L m 18).toInt b.toInt : Nat) : Rat)) 9223372036854775807 := by
    obtain ⟨r1, r2⟩ := hr
    rcases Rat.le_total (a := 0) (b := q + t) with c | c
    · have k1 := Rat.mul_le_mul_of_nonneg_left c1 c
      have k2 := Rat.mul_nonneg c (show 0 ≤ ((Int.lcm (L m 18).toInt b.toInt : Nat) : Rat) by grind)
      unfold inQ
      constructor <;> grind
    · have c : 0 ≤ -(q + t) := by grind
      have k1 := Rat.mul_le_mul_of_nonneg_left c1 c
      have k2 := Rat.mul_nonneg c (show 0 ≤ ((Int.lcm (L m 18).toInt b.toInt : Nat) : Rat) by grind)
      unfold inQ
      constructor <;> grind
  have x1 := RI_get hNI hN2
  have x2 : ((adD L m b).toInt : Rat) = ((Int.lcm (L m 18).toInt b.toInt : Nat) : Rat) := RI_get hlRI (by
    have : (D : Rat) ≤ ((9223372036854775807 : Nat) : Rat) := cast_le (by omega)
    have e9 : ((9223372036854775807 : Nat) : Rat) = 9223372036854775807 := rfl
    unfold inQ
    constructor <;> grind)
  have x3 : (adD L m b).toInt = ((Int.lcm (L m 18).toInt b.toInt : Nat) : Int) := Rat.intCast_inj.mp x2
  have x4 : -9223372036854775807 ≤ (adN L m a b).toInt := by
    have := hN2.1
    rw [← x1] at this
    have this : ((-9223372036854775807 : Int) : Rat) ≤ ((adN L m a b).toInt : Rat) := this
    exact Rat.intCast_le_intCast.mp this
  obtain ⟨y1, y2⟩ := mk_ok (L := L) (m := m) (a := adN L m a b) (b := adD L m b) (q := q + t) x4 (by rw [x3]; omega) (by rw [x1, x2])
  exact ⟨hne, y1, y2⟩
