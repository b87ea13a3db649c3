theorem mk_PFg {L : LM} {m D : Nat} {a b : Int64} {q : Rat} (ha : -9223372036854775807 ≤ a.toInt) (hb : 0 < b.toInt) (h : (a.toInt : Rat) = q * (b.toInt : Rat)) (hD : 0 < D) (hbD : b.toInt.natAbs ∣ D) : ¬ gcdL a b = 0 ∧ PF (mkL L m a b) m D q := by
  have := mk_ok (L := L) (m := m) (a := a) (b := b) (q := q) ha hb h
  refine ⟨this.1, this.2, ?_⟩
  obtain ⟨k, hk⟩ := hbD
  refine int_dv hD (z := a.toInt * k) ?_
  rw [Rat.intCast_mul, h]
  have hk2 : (D : Rat) = (b.toInt : Rat) * ((k : Int) : Rat) := by
    rw [← Rat.intCast_mul, ← Rat.intCast_natCast]
    congr 1
    have : (b.toInt.natAbs : Int) = b.toInt := by omega
    rw [hk, Int.natCast_mul, this]
  rw [hk2]
  grind
theorem num_in {a b : Int64} {v c C : Rat} {D : Nat} (hR : RF a b v) (hv : v.den ∣ D) (hD : 0 < D) (hC : inQ (D : Rat) C) (hi : inQ v c) (hcC : c * C ≤ 9223372036854775807) : inQ (a.toInt : Rat) 9223372036854775807 := by
  have hle := cast_le (Nat.le_of_dvd hD hv)
  have h0 : (0 : Rat) ≤ ((v.den : Nat) : Rat) := cast_le (Nat.zero_le _)
  obtain ⟨C1, C2⟩ := hC
  have hd : inQ ((v.den : Nat) : Rat) C := by unfold inQ; grind
  rw [hR.1, num_den]
  exact inQ_le (inQ_mul hi hd) hcC
theorem in_lo {a : Int64} (h : inQ (a.toInt : Rat) 9223372036854775807) : -9223372036854775807 ≤ a.toInt := Rat.intCast_le_intCast.mp (show ((-9223372036854775807 : Int) : Rat) ≤ _ from h.1)
theorem neg_64 {a : Int64} {t b : Rat} (h : inQ (a.toInt : Rat) 9223372036854775807) (e : (a.toInt : Rat) = t * b) : ((-a).toInt : Rat) = (-t) * b := by
  rw [RI_get (RI_neg (RI_64 a)) (inQ_neg h), e]
  grind
def tltQ (pl : Nat → Nat) (h w : Nat → Rat) (F : Rat) (n : Nat) (f : Nat) : Rat := (smV pl h w F n cb (pl 0) / (6 * (f : Rat)) + -(smV pl h w F n cb (pl 1) / (6 * (f : Rat))) + (h 1 - h 0)) / spR pl n 0
def tltP (sh : Sh) (I : IM) (L : LM) (R : RM) (m D : Nat) (v : Rat) : PPost := fun ret sh' I' L' R' => ret = none ∧ sh' = sh ∧ R' = R ∧ I' = I ∧ frU m L L' ∧ PF L' m D v
theorem frU_t {m : Nat} {L L' L'' : LM} (h1 : frU m L L') (h2 : frU m L' L'') : frU m L L'' := fun c k q => (h2 c k q).trans (h1 c k q)
theorem frU_F {m : Nat} {L L' : LM} (h : frF m L L') : frU m L L' := fun c k q => h c k (by omega)
theorem loF_U {L L2 : LM} {m n : Nat} {pl : Nat → Nat} {h w : Nat → Rat} {F : Rat} (f : frU m L L2) (hl : loF L m n pl h w F) : loF L2 m n pl h w F := fun j hj => by
  rw [f _ _ (by omega), f _ _ (by omega)]
  exact hl j hj
theorem D6_ok {D f : Nat} (hD : 0 < D) (hDl : D ≤ 204472320) (h1 : 1 ≤ f) (h2 : f ≤ 20) : 0 < D * (6 * f) ∧ D * (6 * f) ≤ 24536678400 ∧ inQ ((D * (6 * f) : Nat) : Rat) 24536678400 := by
  have e1 : D * (6 * f) ≤ 204472320 * 120 := Nat.mul_le_mul hDl (by omega)
  have e2 : 0 < D * (6 * f) := Nat.mul_pos hD (by omega)
  have c1 : ((D * (6 * f) : Nat) : Rat) ≤ 24536678400 := cast_le (b := 24536678400) (by omega)
  have c0 : (0 : Rat) ≤ ((D * (6 * f) : Nat) : Rat) := cast_le (Nat.zero_le _)
  refine ⟨e2, by omega, ?_⟩
  unfold inQ
  grind
theorem dh_in {I : IM} {m n : Nat} {pl : Nat → Nat} {h w : Nat → Rat} {F H : Rat} (hB : okB pl h w F H n) (hS : SolM I m n pl h w F) : ((I (m + 12) 1 - I (m + 12) 0).toInt64.toInt : Rat) = (h 1 - h 0) * ((1 : Int64).toInt : Rat) ∧ inQ (h 1 - h 0) 180 := by
  have e := sm_h hS (show 0 < n + 1 by omega)
  have hi : inQ (h 1 - h 0) 180 := inQ_le (inQ_sub (hB.2.2.1 1) (hB.2.2.1 0)) (by have := hB.2.2.2.2.2.2; grind)
  refine ⟨?_, hi⟩
  rw [RI_get e (inQ_le hi (by grind))]
  show _ = _ * ((1 : Int) : Rat)
  rw [Rat.intCast_one]
  grind
/-- over a side -/
theorem mk_s {a b c : Int64} {v : Rat} {D s : Nat} (hR : RF a b v) (hv : v.den ∣ D) (hD : 0 < D) (hDl : D ≤ 24536678400) (hc : c.toInt = (s : Int)) (h1 : 1 ≤ s) (h12 : s ≤ 12) : ((a.toInt : Rat) = v / (s : Rat) * ((b * c).toInt : Rat)) ∧ 0 < (b * c).toInt ∧ (b * c).toInt.natAbs ∣ D * s := by
  have hpos := v.den_pos
  have hle := Nat.le_of_dvd hD hv
  have hb := hR.2
  have e : (b * c).toInt = ((v.den * s : Nat) : Int) := by
    have hm : v.den * s ≤ 24536678400 * 12 := Nat.mul_le_mul (by omega) h12
    have e0 : b.toInt * c.toInt = ((v.den * s : Nat) : Int) := by rw [hb, hc, Int.natCast_mul]
    rw [Int64.toInt_mul, e0, Int.bmod_eq_of_le] <;> omega
  have c1 : (1 : Rat) ≤ (s : Rat) := cast_le h1
  have hp : 0 < v.den * s := Nat.mul_pos hpos (by omega)
  rw [e]
  refine ⟨?_, by omega, Nat.mul_dvd_mul hv (Nat.dvd_refl _)⟩
  rw [hR.1, num_den, Rat.intCast_natCast, Rat.natCast_mul]
  grind
