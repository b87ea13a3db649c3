theorem D4_ok {pl : Nat → Nat} {n D f : Nat} (hP : isP pl n) (hDQ : DQ (spR pl n) n = (D : Rat)) (hD : 0 < D) (h1 : 1 ≤ f) (h2 : f ≤ 20) : 0 < D * (6 * f) * spP pl n 0 ∧ D * (6 * f) * spP pl n 0 < 9223372036854775807 ∧ inQ ((D * (6 * f) * spP pl n 0 : Nat) : Rat) 57649397760 := by
  have hs := (D_size hP).2.2.2
  have hss := sp_le12 hP 0
  rw [hDQ] at hs
  have hs : (D : Rat) * ((spP pl n 0 : Nat) : Rat) ≤ 480411648 := hs
  have e0 : D * spP pl n 0 ≤ 480411648 := by
    rcases Nat.lt_or_ge 480411648 (D * spP pl n 0) with c | c
    · have := cast_lt c
      rw [Rat.natCast_mul] at this
      have e : ((480411648 : Nat) : Rat) = 480411648 := rfl
      rw [e] at this
      grind
    · exact c
  have e1 : D * (6 * f) * spP pl n 0 = D * spP pl n 0 * (6 * f) := by rw [Nat.mul_right_comm]
  have e2 : D * spP pl n 0 * (6 * f) ≤ 480411648 * 120 := Nat.mul_le_mul e0 (by omega)
  have e3 : 0 < D * (6 * f) * spP pl n 0 := Nat.mul_pos (Nat.mul_pos hD (by omega)) hss.1
  have c1 : ((D * (6 * f) * spP pl n 0 : Nat) : Rat) ≤ 57649397760 := cast_le (b := 57649397760) (by omega)
  have c0 : (0 : Rat) ≤ ((D * (6 * f) * spP pl n 0 : Nat) : Rat) := cast_le (Nat.zero_le _)
  refine ⟨e3, by omega, ?_⟩
  unfold inQ
  grind
theorem num_inC {a b : Int64} {v c C : Rat} {D : Nat} (hR : RF a b v) (hv : v.den ∣ D) (hD : 0 < D) (hC : inQ (D : Rat) C) (hi : inQ v c) : inQ (a.toInt : Rat) (c * C) := by
  have hle := cast_le (Nat.le_of_dvd hD hv)
  have h0 : (0 : Rat) ≤ ((v.den : Nat) : Rat) := cast_le (Nat.zero_le _)
  obtain ⟨C1, C2⟩ := hC
  have hd : inQ ((v.den : Nat) : Rat) C := by unfold inQ; grind
  rw [hR.1, num_den]
  exact inQ_mul hi hd
theorem mk_x {a b c : Int64} {v d : Rat} {D : Nat} (hR : RF a b v) (hv : v.den ∣ D) (hD : 0 < D) (hC : inQ (D : Rat) 57649397760) (hi : inQ v 6000000) (hc : (c.toInt : Rat) = d) (hd : inQ d 12) : ((a * c).toInt : Rat) = (v * d) * (b.toInt : Rat) ∧ inQ ((a * c).toInt : Rat) 9223372036854775807 := by
  have hr := RI_mul (RI_64 a) (RI_64 c)
  rw [hc] at hr
  have hb := inQ_le (inQ_mul (num_inC hR hv hD hC hi) hd) (show (6000000 * 57649397760 : Rat) * 12 ≤ 9223372036854775807 by grind)
  have e := RI_get hr hb
  refine ⟨?_, by rw [e]; exact hb⟩
  rw [e, (RF_t hR hv).1]
  grind
theorem h0_in {I : IM} {m n : Nat} {pl : Nat → Nat} {h w : Nat → Rat} {F H : Rat} (hB : okB pl h w F H n) (hS : SolM I m n pl h w F) : ((I (m + 12) 0).toInt64.toInt : Rat) = h 0 * ((1 : Int64).toInt : Rat) ∧ inQ (h 0) 90 := by
  refine ⟨?_, inQ_le (hB.2.2.1 0) hB.2.2.2.2.2.2⟩
  rw [Int32.toInt_toInt64, (hS.2.2.1 0 (by omega)).1]
  show _ = _ * ((1 : Int) : Rat)
  rw [Rat.intCast_one]
  grind
def heiQ (pl : Nat → Nat) (h w : Nat → Rat) (F : Rat) (n f x : Nat) : Rat := smV pl h w F n cb x / (6 * (f : Rat)) + -(smV pl h w F n cb (pl 0) / (6 * (f : Rat))) + tltQ pl h w F n f * ((x : Rat) - pl 0) + h 0
