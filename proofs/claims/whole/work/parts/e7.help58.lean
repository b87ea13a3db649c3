theorem f6_ok {I : IM} {m n : Nat} {pl : Nat → Nat} {h w : Nat → Rat} {F H : Rat} (hB : okB pl h w F H n) (hS : SolM I m n pl h w F) : ∃ f : Nat, F = (f : Rat) ∧ 1 ≤ f ∧ f ≤ 20 ∧ (I m 7).toInt = (f : Int) := by
  have h1 := hB.2.2.2.1
  have h2 := hB.2.2.2.2.1
  rw [← hS.2.2.2.2] at h1 h2
  have g1 : (1 : Int) ≤ (I m 7).toInt := Rat.intCast_le_intCast.mp (show ((1 : Int) : Rat) ≤ _ from h1)
  have g2 : (I m 7).toInt ≤ 20 := Rat.intCast_le_intCast.mp (show _ ≤ ((20 : Int) : Rat) from h2)
  refine ⟨(I m 7).toInt.toNat, ?_, by omega, by omega, by omega⟩
  rw [← hS.2.2.2.2]
  have e : (I m 7).toInt = (((I m 7).toInt.toNat : Nat) : Int) := by omega
  rw [e, Rat.intCast_natCast]
  rfl
theorem mul6 {b : Int64} {x : Int32} {d f : Nat} (hb : b.toInt = (d : Int)) (hd : d ≤ 204472320) (hf : x.toInt = (f : Int)) (hf2 : f ≤ 20) : (b * 6 * x.toInt64).toInt = ((d * (6 * f) : Nat) : Int) := by
  have h1 := RI_64 b
  have h2 := RI_32 x
  rw [hb, Rat.intCast_natCast] at h1
  rw [hf, Rat.intCast_natCast] at h2
  have i1 : inQ (d : Rat) 204472320 := D_inQ hd
  have i2 : inQ (f : Rat) 20 := by
    have c1 : (f : Rat) ≤ 20 := cast_le hf2
    have c0 : (0 : Rat) ≤ (f : Rat) := cast_le (Nat.zero_le _)
    unfold inQ
    grind
  have i3 : inQ (6 : Rat) 6 := by unfold inQ; grind
  have := RI_get (RI_mul (RI_mul h1 RI_6) h2) (inQ_le (inQ_mul (inQ_mul i1 i3) i2) (by grind))
  apply Rat.intCast_inj.mp
  rw [this, Rat.intCast_natCast, Rat.natCast_mul, Rat.natCast_mul]
  have e6 : ((6 : Nat) : Rat) = 6 := rfl
  rw [e6]
  grind
/-- a fraction over 6 * STIFFNESS -/
theorem mk_6 {D f : Nat} {a b : Int64} {x : Int32} {v : Rat} (hR : RF a b v) (hv : v.den ∣ D) (hD : 0 < D) (hDl : D ≤ 204472320) (hf : x.toInt = (f : Int)) (h1 : 1 ≤ f) (hf2 : f ≤ 20) (hi : inQ v 20000000) : ((a.toInt : Rat) = v / (6 * (f : Rat)) * ((b * 6 * x.toInt64).toInt : Rat)) ∧ 0 < (b * 6 * x.toInt64).toInt ∧ (b * 6 * x.toInt64).toInt.natAbs ∣ D * (6 * f) ∧ inQ (v / (6 * (f : Rat))) 20000000 := by
  have hpos := v.den_pos
  have hle := Nat.le_of_dvd hD hv
  have e := mul6 (b := b) (x := x) (d := v.den) hR.2 (by omega) hf hf2
  have c1 : (1 : Rat) ≤ (f : Rat) := cast_le h1
  rw [e]
  refine ⟨?_, ?_, ?_, dv_in hi (by grind) (by grind)⟩
  · rw [hR.1, num_den, Rat.intCast_natCast, Rat.natCast_mul, Rat.natCast_mul]
    have e6 : ((6 : Nat) : Rat) = 6 := rfl
    rw [e6]
    grind
  · have : 0 < v.den * (6 * f) := Nat.mul_pos hpos (by omega)
    omega
  · exact Nat.mul_dvd_mul hv (Nat.dvd_refl _)
theorem S_15 {n x : Nat} {pl : Nat → Nat} {h w : Nat → Rat} {F H : Rat} (hB : okB pl h w F H n) (hx : x ≤ 12) : inQ (smV pl h w F n cb x) 16000000 := by
  have h1 := S_in (okN hB) (tl_ok _ _) hx
  have h2 := KM_le hB
  exact inQ_le h1 (by grind)
