section J2
variable {sh : Sh} {I : IM} {L : LM} {R : RM}
theorem j_offset (hJ : JJ sh I L R) (b v : Int32) : JMi sh I L R M_X7_offset M_X8_offset [.int b, .int v] := by
  have hJ0 := hJ
  obtain ⟨A, lo, hi, T, a, hR, h1, h2, h3, h4, h5, h6, h7⟩ := hJ
  refine ⟨_, c_X7_offset hR.1.1 h1.1.1 a.1 b v, fun r sh1 I1 L1 R1 hp => ?_⟩
  rcases hp with ⟨c0, hp⟩ | ⟨c0, hp⟩
  · skip
    obtain ⟨e0, e1, eI, eL, eR⟩ := hp
    have e1 := e1.symm
    subst e1
    have eI := eI.symm
    subst eI
    have eL := eL.symm
    subst eL
    have eR := eR.symm
    subst eR
    have q0 := c0
    simp only [Bool.and_eq_true] at q0
    have hb := px_ix_lt (isBn_ix (n := aN A) (N := aN A) q0.1 (Nat.le_refl _))
    refine ⟨rfl, _, e0, _, c_X8_offset (I := (u2 (forgI I) 3 b.toNatClampNeg v)) hR.2.2 (n := aN A) h1.2.1.1 a.1 b v, fun r2 sh2 I2 L2 R2 hp2 => ?_⟩
    rcases hp2 with ⟨m0, hp2⟩ | ⟨m0, hp2⟩
    rotate_left
    · exact absurd (c0.symm.trans m0) (by decide)
    obtain ⟨d0, d1, dI, dL, dR⟩ := hp2
    have d1 := d1.symm
    subst d1
    have dI := dI.symm
    subst dI
    have dL := dL.symm
    subst dL
    have dR := dR.symm
    subst dR
    refine ⟨rfl, ?_, ?_⟩
    · rw [d0]; exact congrArg (fun z => some (Value.int z)) (J_off h1 _ hb).symm
    · exact JJ_off a hR h1 h2 h3 h4 h5 hb (k_isW q0.2 rfl rfl)
  · skip
    obtain ⟨e0, e1, eI, eL, eR⟩ := hp
    have e1 := e1.symm
    subst e1
    have eI := eI.symm
    subst eI
    have eL := eL.symm
    subst eL
    have eR := eR.symm
    subst eR
    refine ⟨rfl, _, e0, _, c_X8_offset (I := I) hR.2.2 (n := aN A) h1.2.1.1 a.1 b v, fun r2 sh2 I2 L2 R2 hp2 => ?_⟩
    rcases hp2 with ⟨m0, hp2⟩ | ⟨m0, hp2⟩
    · exact absurd (c0.symm.trans m0) (by decide)
    obtain ⟨d0, d1, dI, dL, dR⟩ := hp2
    have d1 := d1.symm
    subst d1
    have dI := dI.symm
    subst dI
    have dL := dL.symm
    subst dL
    have dR := dR.symm
    subst dR
    exact ⟨rfl, d0, hJ0⟩

theorem j_weight (hJ : JJ sh I L R) (p v : Int32) : JMi sh I L R M_X7_weight M_X8_weight [.int p, .int v] := by
  have hJ0 := hJ
  obtain ⟨A, lo, hi, T, a, hR, h1, h2, h3, h4, h5, h6, h7⟩ := hJ
  refine ⟨_, c_X7_weight hR.1.1 p v, fun r sh1 I1 L1 R1 hp => ?_⟩
  rcases hp with ⟨c0, hp⟩ | ⟨c0, hp⟩
  · skip
    obtain ⟨e0, e1, eI, eL, eR⟩ := hp
    have e1 := e1.symm
    subst e1
    have eI := eI.symm
    subst eI
    have eL := eL.symm
    subst eL
    have eR := eR.symm
    subst eR
    have q0 := c0
    simp only [Bool.and_eq_true] at q0
    have hp13 := px_ix_lt (isW_ix (N := 13) q0.1 rfl (by decide))
    refine ⟨rfl, _, e0, _, c_X8_weight (I := (u2 (forgI I) 6 p.toNatClampNeg v)) hR.2.2 (n := aN A) h1.2.1.1 a.1 p v, fun r2 sh2 I2 L2 R2 hp2 => ?_⟩
    rcases hp2 with ⟨m0, hp2⟩ | ⟨m0, hp2⟩
    rotate_left
    · exact absurd (c0.symm.trans m0) (by decide)
    obtain ⟨d0, d1, dI, dL, dR⟩ := hp2
    have d1 := d1.symm
    subst d1
    have dI := dI.symm
    subst dI
    have dL := dL.symm
    subst dL
    have dR := dR.symm
    subst dR
    refine ⟨rfl, ?_, ?_⟩
    · rw [d0]; exact congrArg (fun z => some (Value.int z)) (J_sum h1 _ hp13).symm
    · exact JJ_wgt a hR h1 h2 h3 h4 h5 (k_isW q0.2 rfl rfl)
  · skip
    obtain ⟨e0, e1, eI, eL, eR⟩ := hp
    have e1 := e1.symm
    subst e1
    have eI := eI.symm
    subst eI
    have eL := eL.symm
    subst eL
    have eR := eR.symm
    subst eR
    refine ⟨rfl, _, e0, _, c_X8_weight (I := I) hR.2.2 (n := aN A) h1.2.1.1 a.1 p v, fun r2 sh2 I2 L2 R2 hp2 => ?_⟩
    rcases hp2 with ⟨m0, hp2⟩ | ⟨m0, hp2⟩
    · exact absurd (c0.symm.trans m0) (by decide)
    obtain ⟨d0, d1, dI, dL, dR⟩ := hp2
    have d1 := d1.symm
    subst d1
    have dI := dI.symm
    subst dI
    have dL := dL.symm
    subst dL
    have dR := dR.symm
    subst dR
    exact ⟨rfl, d0, hJ0⟩

theorem j_stiffness (hJ : JJ sh I L R) (f : Int32) : JMi sh I L R M_X7_stiffness M_X8_stiffness [.int f] := by
  have hJ0 := hJ
  obtain ⟨A, lo, hi, T, a, hR, h1, h2, h3, h4, h5, h6, h7⟩ := hJ
  refine ⟨_, c_X7_stiffness hR.1.1 f, fun r sh1 I1 L1 R1 hp => ?_⟩
  rcases hp with ⟨c0, hp⟩ | ⟨c0, hp⟩
  · skip
    obtain ⟨e0, e1, eI, eL, eR⟩ := hp
    have e1 := e1.symm
    subst e1
    have eI := eI.symm
    subst eI
    have eL := eL.symm
    subst eL
    have eR := eR.symm
    subst eR
    have eF : I 1 6 = I 81 7 := Int32.toInt_inj.mp (h1.1.2.2.2.2.1.trans h1.2.1.2.2.2.2.1.symm)
    refine ⟨rfl, _, e0, _, c_X8_stiffness (I := (u2 (forgI I) 1 6 f)) hR.2.2 (n := aN A) h1.2.1.1 a.1 f, fun r2 sh2 I2 L2 R2 hp2 => ?_⟩
    rcases hp2 with ⟨m0, hp2⟩ | ⟨m0, hp2⟩
    rotate_left
    · exact absurd (c0.symm.trans m0) (by decide)
    obtain ⟨d0, d1, dI, dL, dR⟩ := hp2
    have d1 := d1.symm
    subst d1
    have dI := dI.symm
    subst dI
    have dL := dL.symm
    subst dL
    have dR := dR.symm
    subst dR
    refine ⟨rfl, ?_, ?_⟩
    · rw [d0]; exact congrArg (fun z => some (Value.int z)) eF.symm
    · exact JJ_stf a hR h1 h2 h3 h4 h5 (k_isW c0 rfl rfl)
  · skip
    obtain ⟨e0, e1, eI, eL, eR⟩ := hp
    have e1 := e1.symm
    subst e1
    have eI := eI.symm
    subst eI
    have eL := eL.symm
    subst eL
    have eR := eR.symm
    subst eR
    refine ⟨rfl, _, e0, _, c_X8_stiffness (I := I) hR.2.2 (n := aN A) h1.2.1.1 a.1 f, fun r2 sh2 I2 L2 R2 hp2 => ?_⟩
    rcases hp2 with ⟨m0, hp2⟩ | ⟨m0, hp2⟩
    · exact absurd (c0.symm.trans m0) (by decide)
    obtain ⟨d0, d1, dI, dL, dR⟩ := hp2
    have d1 := d1.symm
    subst d1
    have dI := dI.symm
    subst dI
    have dL := dL.symm
    subst dL
    have dR := dR.symm
    subst dR
    exact ⟨rfl, d0, hJ0⟩

theorem j_rise (hJ : JJ sh I L R) (s p v : Int32) : JMi sh I L R M_X7_rise M_X8_rise [.int s, .int p, .int v] := by
  have hJ0 := hJ
  obtain ⟨A, lo, hi, T, a, hR, h1, h2, h3, h4, h5, h6, h7⟩ := hJ
  refine ⟨_, c_X7_rise hR.1.1 s p v, fun r sh1 I1 L1 R1 hp => ?_⟩
  rcases hp with ⟨c0, hp⟩ | ⟨c0, hp⟩
  · skip
    obtain ⟨e0, e1, eI, eL, eR⟩ := hp
    have e1 := e1.symm
    subst e1
    have eI := eI.symm
    subst eI
    have eL := eL.symm
    subst eL
    have eR := eR.symm
    subst eR
    have q0 := c0
    simp only [Bool.and_eq_true] at q0
    have hs4 := px_ix_lt (isW_ix (N := 4) q0.1.1 rfl (by decide))
    have hp13 := px_ix_lt (isW_ix (N := 13) q0.1.2 rfl (by decide))
    have eR9 : I (8 + s.toNatClampNeg) p.toNatClampNeg = u2 (forgI I) (8 + s.toNatClampNeg) p.toNatClampNeg v (81 + 6) (13 * s.toNatClampNeg + p.toNatClampNeg) := by
      rw [u2_n1 (by omega), forgI_at (by decide)]
      exact Int32.toInt_inj.mp ((h1.1.2.2.2.2.2 _ hs4 _ hp13).trans (h1.2.1.2.2.2.2.2 _ hs4 _ hp13).symm)
    refine ⟨rfl, _, e0, _, c_X8_rise (I := (u2 (forgI I) (8 + s.toNatClampNeg) p.toNatClampNeg v)) hR.2.2 (n := aN A) (by first | exact h1.2.1.1 | (rw [u2_n1 (by omega), forgI_at (by decide)]; exact h1.2.1.1)) a.1 s p v, fun r2 sh2 I2 L2 R2 hp2 => ?_⟩
    rcases hp2 with ⟨m0, hp2⟩ | ⟨m0, hp2⟩
    rotate_left
    · exact absurd (c0.symm.trans m0) (by decide)
    obtain ⟨d0, d1, dI, dL, dR⟩ := hp2
    have d1 := d1.symm
    subst d1
    have dI := dI.symm
    subst dI
    have dL := dL.symm
    subst dL
    have dR := dR.symm
    subst dR
    refine ⟨rfl, ?_, ?_⟩
    · rw [d0]; exact congrArg (fun z => some (Value.int z)) eR9.symm
    · exact JJ_ris a hR h1 h2 h3 h4 h5 hs4 hp13 (k_isW q0.2 rfl rfl)
  · skip
    obtain ⟨e0, e1, eI, eL, eR⟩ := hp
    have e1 := e1.symm
    subst e1
    have eI := eI.symm
    subst eI
    have eL := eL.symm
    subst eL
    have eR := eR.symm
    subst eR
    refine ⟨rfl, _, e0, _, c_X8_rise (I := I) hR.2.2 (n := aN A) (by first | exact h1.2.1.1 | (rw [u2_n1 (by omega), forgI_at (by decide)]; exact h1.2.1.1)) a.1 s p v, fun r2 sh2 I2 L2 R2 hp2 => ?_⟩
    rcases hp2 with ⟨m0, hp2⟩ | ⟨m0, hp2⟩
    · exact absurd (c0.symm.trans m0) (by decide)
    obtain ⟨d0, d1, dI, dL, dR⟩ := hp2
    have d1 := d1.symm
    subst d1
    have dI := dI.symm
    subst dI
    have dL := dL.symm
    subst dL
    have dR := dR.symm
    subst dR
    exact ⟨rfl, d0, hJ0⟩

theorem j_bounds (hJ : JJ sh I L R) (x y : Int32) : JMi sh I L R M_X7_bounds M_X8_bounds [.int x, .int y] := by
  have hJ0 := hJ
  obtain ⟨A, lo, hi, T, a, hR, h1, h2, h3, h4, h5, h6, h7⟩ := hJ
  refine ⟨_, c_X7_bounds hR.1.1 x y, fun r sh1 I1 L1 R1 hp => ?_⟩
  rcases hp with ⟨c0, hp⟩ | ⟨c0, hp⟩
  · skip
    obtain ⟨e0, e1, eI, eL, eR⟩ := hp
    have e1 := e1.symm
    subst e1
    have eI := eI.symm
    subst eI
    have eL := eL.symm
    subst eL
    have eR := eR.symm
    subst eR
    have q0 := c0
    simp only [Bool.and_eq_true] at q0
    have qx := k_isW (c := 0) (d := 600) q0.1 rfl rfl
    have qy := k_isW (c := x.toInt) (d := 600) q0.2 rfl rfl
    refine ⟨rfl, _, e0, _, c_X8_bounds (I := (u2 (u2 (forgI I) 0 11 x) 0 12 y)) hR.2.2 (n := aN A) h1.2.1.1 a.1 x y, fun r2 sh2 I2 L2 R2 hp2 => ?_⟩
    rcases hp2 with ⟨m0, hp2⟩ | ⟨m0, hp2⟩
    rotate_left
    · exact absurd (c0.symm.trans m0) (by decide)
    obtain ⟨d0, d1, dI, dL, dR⟩ := hp2
    have d1 := d1.symm
    subst d1
    have dI := dI.symm
    subst dI
    have dL := dL.symm
    subst dL
    have dR := dR.symm
    subst dR
    refine ⟨rfl, ?_, ?_⟩
    · exact d0
    · exact JJ_bnd a hR h1 h3 h4 h5 qx (by omega)
  · skip
    obtain ⟨e0, e1, eI, eL, eR⟩ := hp
    have e1 := e1.symm
    subst e1
    have eI := eI.symm
    subst eI
    have eL := eL.symm
    subst eL
    have eR := eR.symm
    subst eR
    refine ⟨rfl, _, e0, _, c_X8_bounds (I := I) hR.2.2 (n := aN A) h1.2.1.1 a.1 x y, fun r2 sh2 I2 L2 R2 hp2 => ?_⟩
    rcases hp2 with ⟨m0, hp2⟩ | ⟨m0, hp2⟩
    · exact absurd (c0.symm.trans m0) (by decide)
    obtain ⟨d0, d1, dI, dL, dR⟩ := hp2
    have d1 := d1.symm
    subst d1
    have dI := dI.symm
    subst dI
    have dL := dL.symm
    subst dL
    have dR := dR.symm
    subst dR
    exact ⟨rfl, d0, hJ0⟩

theorem j_reading (hJ : JJ sh I L R) (b v : Int32) : JMi sh I L R M_X7_reading M_X8_reading [.int b, .int v] := by
  have hJ0 := hJ
  obtain ⟨A, lo, hi, T, a, hR, h1, h2, h3, h4, h5, h6, h7⟩ := hJ
  refine ⟨_, c_X7_reading hR.1.1 h1.1.1 a.1 b v, fun r sh1 I1 L1 R1 hp => ?_⟩
  rcases hp with ⟨c0, hp⟩ | ⟨c0, hp⟩
  · skip
    obtain ⟨e0, e1, eI, eL, eR⟩ := hp
    have e1 := e1.symm
    subst e1
    have eI := eI.symm
    subst eI
    have eL := eL.symm
    subst eL
    have eR := eR.symm
    subst eR
    have q0 := c0
    simp only [Bool.and_eq_true] at q0
    have hb := px_ix_lt (isBn_ix (n := aN A) (N := aN A) q0.1 (Nat.le_refl _))
    refine ⟨rfl, _, e0, _, c_X8_reading (I := (u2 I 5 b.toNatClampNeg v)) hR.2.2 (n := aN A) h1.2.1.1 a.1 b v, fun r2 sh2 I2 L2 R2 hp2 => ?_⟩
    rcases hp2 with ⟨m0, hp2⟩ | ⟨m0, hp2⟩
    rotate_left
    · exact absurd (c0.symm.trans m0) (by decide)
    obtain ⟨d0, d1, dI, dL, dR⟩ := hp2
    have d1 := d1.symm
    subst d1
    have dI := dI.symm
    subst dI
    have dL := dL.symm
    subst dL
    have dR := dR.symm
    subst dR
    refine ⟨rfl, ?_, ?_⟩
    · rw [d0]; exact congrArg (fun z => some (Value.int z)) (h1.2.2 _ hb).2.1.symm
    · exact JJ_rdg a hR h1 h2 h3 h4 h5 h6 h7
  · skip
    obtain ⟨e0, e1, eI, eL, eR⟩ := hp
    have e1 := e1.symm
    subst e1
    have eI := eI.symm
    subst eI
    have eL := eL.symm
    subst eL
    have eR := eR.symm
    subst eR
    refine ⟨rfl, _, e0, _, c_X8_reading (I := I) hR.2.2 (n := aN A) h1.2.1.1 a.1 b v, fun r2 sh2 I2 L2 R2 hp2 => ?_⟩
    rcases hp2 with ⟨m0, hp2⟩ | ⟨m0, hp2⟩
    · exact absurd (c0.symm.trans m0) (by decide)
    obtain ⟨d0, d1, dI, dL, dR⟩ := hp2
    have d1 := d1.symm
    subst d1
    have dI := dI.symm
    subst dI
    have dL := dL.symm
    subst dL
    have dR := dR.symm
    subst dR
    exact ⟨rfl, d0, hJ0⟩

end J2
