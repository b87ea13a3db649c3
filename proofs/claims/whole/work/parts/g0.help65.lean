/-! ends of a coupling, the jack -/
theorem num_inP {a b : Int64} {v B : Rat} {D : Nat} (hR : RF a b v) (hv : v.den ∣ D) (hD : 0 < D) (h : inQ (v * (D : Rat)) B) : inQ (a.toInt : Rat) B := by
  obtain ⟨k, hk⟩ := hv
  have hk1 : 1 ≤ k := by
    rcases Nat.eq_zero_or_pos k with c | c
    · subst c; omega
    · exact c
  obtain ⟨e, hp⟩ := RF_mul hR
  have e2 : (D : Rat) = (b.toInt : Rat) * (k : Rat) := by
    rw [hR.2, hk, Rat.natCast_mul]
    rfl
  rw [e2] at h
  have e3 : v * ((b.toInt : Rat) * (k : Rat)) = (a.toInt : Rat) * (k : Rat) := by
    rw [e]; grind
  rw [e3] at h
  have hkk : (1 : Rat) ≤ (k : Rat) := cast_le hk1
  generalize (a.toInt : Rat) = x at *
  generalize (k : Rat) = y at *
  unfold inQ at *
  constructor
  · by_cases c : 0 ≤ x
    · have : -B ≤ 0 := by
        have h1 := h.1
        have h2 := h.2
        grind
      grind
    · have : x * y ≤ x := by
        have := Rat.mul_le_mul_of_nonneg_left (a := 1) (b := y) (c := -x) hkk (by grind)
        grind
      grind
  · by_cases c : 0 ≤ x
    · have : x ≤ x * y := by
        have := Rat.mul_le_mul_of_nonneg_left (a := 1) (b := y) (c := x) hkk c
        grind
      grind
    · have : 0 ≤ B := by
        have h1 := h.1
        have h2 := h.2
        grind
      grind
/-- D times 6 f s0, as a number -/
theorem D3_cast {pl : Nat → Nat} {n D f : Nat} {F : Rat} (hDQ : DQ (spR pl n) n = (D : Rat)) (hF : F = (f : Rat)) : ((D * (6 * f) * spP pl n 0 : Nat) : Rat) = DQ (spR pl n) n * (6 * F * spR pl n 0) := by
  rw [hDQ, hF, Rat.natCast_mul, Rat.natCast_mul, Rat.natCast_mul]
  have e1 : ((6 : Nat) : Rat) = 6 := rfl
  have e2 : ((spP pl n 0 : Nat) : Rat) = spR pl n 0 := rfl
  rw [e1, e2]
  grind
theorem q_D3 {pl : Nat → Nat} {n D f : Nat} {F t : Rat} (hP : isP pl n) (hDQ : DQ (spR pl n) n = (D : Rat)) (hF : F = (f : Rat)) (h1 : 1 ≤ f) : t / (6 * F * spR pl n 0) * ((D * (6 * f) * spP pl n 0 : Nat) : Rat) = DQ (spR pl n) n * t := by
  rw [D3_cast hDQ hF]
  have hs := sp_one hP 0
  have hf : (1 : Rat) ≤ (f : Rat) := cast_le h1
  have hp : 0 < 6 * F * spR pl n 0 := by
    rw [hF]
    exact Rat.mul_pos (by grind) (by grind)
  have hn : 6 * F * spR pl n 0 ≠ 0 := by grind
  have e : t / (6 * F * spR pl n 0) * (6 * F * spR pl n 0) = t := Rat.div_mul_cancel hn
  generalize 6 * F * spR pl n 0 = d at *
  generalize t / d = u at *
  grind
/-- one side of a coupling -/
def eofP (sh : Sh) (I : IM) (L : LM) (R : RM) (m D : Nat) (v : Rat) : PPost := fun ret sh' I' L' R' => ret = none ∧ sh' = sh ∧ R' = R ∧ I' = I ∧ frU m L L' ∧ PF L' m D v
theorem eo_mk {L : LM} {m n D f x : Nat} {pl : Nat → Nat} {h w : Nat → Rat} {F H : Rat} {u : Int32} (hB : okB pl h w F H n) (hDQ : DQ (spR pl n) n = (D : Rat)) (hD : 0 < D) (hF : F = (f : Rat)) (h1 : 1 ≤ f) (h2 : f ≤ 20) (hx : x ≤ 12) (hu : ¬ u = 0) (hp : PF L m (D * (6 * f) * spP pl n 0) (sloQ pl h w F n f x)) : ¬ gcdL (10 * L m 17) (L m 18) = 0 ∧ PF (mkL L m (10 * L m 17) (L m 18)) m (D * (6 * f) * spP pl n 0) (eoP pl h w F n x u) := by
  obtain ⟨d1, d2, d3⟩ := D4_ok hB.1 hDQ hD h1 h2
  rw [slo_eq hB.1 hF h1] at hp
  have hq : inQ (slP pl h w F n x / (6 * F * spR pl n 0) * ((D * (6 * f) * spP pl n 0 : Nat) : Rat)) 20000000000000000 := by
    rw [q_D3 hB.1 hDQ hF h1]
    exact ex_sle hB (by omega)
  have hn := num_inP hp.1 hp.2 d1 hq
  obtain ⟨e, hb⟩ := RF_mul hp.1
  have e10 : ((10 * L m 17).toInt : Rat) = 10 * ((L m 17).toInt : Rat) := RI_get (RI_mul RI_10 (RI_64 (L m 17))) (by
    refine inQ_le (inQ_mul (p := 10) (a := 10) (by unfold inQ; grind) hn) ?_
    grind)
  have hev : eoP pl h w F n x u = 10 * (slP pl h w F n x / (6 * F * spR pl n 0)) := by
    unfold eoP
    rw [if_neg hu]
  rw [hev]
  have hbd : (L m 18).toInt.natAbs ∣ D * (6 * f) * spP pl n 0 := by
    have := hp.2
    rw [hp.1.2]
    exact this
  refine mk_PFg (L := L) (m := m) ?_ hb ?_ d1 hbd
  · have : inQ ((10 * L m 17).toInt : Rat) ((200000000000000000 : Int) : Rat) := by
      rw [e10]
      refine inQ_le (inQ_mul (p := 10) (a := 10) (by unfold inQ; grind) hn) ?_
      have z : ((200000000000000000 : Int) : Rat) = 200000000000000000 := rfl
      rw [z]
      grind
    have := in_ge this
    omega
  · rw [e10, e]
    grind
theorem eo_hei {L : LM} {m n D f x : Nat} {pl : Nat → Nat} {h w : Nat → Rat} {F H : Rat} {u : Int32} (hB : okB pl h w F H n) (hF : F = (f : Rat)) (h1 : 1 ≤ f) (hu : u = 0) (hp : PF L m (D * (6 * f) * spP pl n 0) (heiQ pl h w F n f x)) : PF L m (D * (6 * f) * spP pl n 0) (eoP pl h w F n x u) := by
  rw [hei_eq hB.1 hF h1] at hp
  unfold eoP
  rw [if_pos hu]
  exact hp
theorem srch_hit {I : IM} {m p : Nat} {A : LA} (hm : MSm I m A) (h : ∀ k, k < aN A → aQ A k ≠ p) : ¬ hitP A p := fun ⟨b, hb, e⟩ => h b hb e
