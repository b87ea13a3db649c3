section J5
variable {sh : Sh} {I : IM} {L : LM} {R : RM}
theorem j_bearing (hJ : JJ sh I L R) (p v : Int32) : JMi sh I L R M_X7_bearing M_X8_bearing [.int p, .int v] := by
  have hJ0 := hJ
  obtain ⟨A, lo, hi, T, a, hR, h1, h2, h3, h4, h5, h6, h7⟩ := hJ
  refine ⟨_, c_X7_bearing hR.1.1 h1.1.1 a.1 p v, fun r sh1 I1 L1 R1 hp => ?_⟩
  rcases hp with ⟨c0, hp⟩ | ⟨c0, hp⟩
  · skip
    rcases hp with ⟨c1, hp⟩ | ⟨c1, hp⟩
    · skip
      rcases hp with ⟨c2, hp⟩ | ⟨c2, hp⟩
      · skip
        obtain ⟨e0, e1, eI, eL, eR⟩ := hp
        have e1 := e1.symm
        subst e1
        have eI := eI.symm
        subst eI
        have eL := eL.symm
        subst eL
        have eR := eR.symm
        subst eR
        have q0 := c0
        simp only [Bool.and_eq_true] at q0
        have hxp := isW_ix (N := 13) q0.1 rfl (by decide)
        have lp := px_ix_lt hxp
        have ep : p = nI p.toNatClampNeg := px_ix_eq hxp
        have hno := (srch_Q lp h1.1.2.1 a.2.1.1).mp (by rw [← ep]; exact c1)
        have hb := JJ_bea (L := L) a hR h1 h2 h3 h4 h5 ep lp hno (of_decide_eq_true c2) (k_isW q0.2 rfl rfl)
        have q1 : (srch (I 2) p (aN A)).isNone = (srch ((insI (forgI I) (aN A) p v) (81 + 1)) p (aN A)).isNone := congrArg Option.isNone (srch_congr (fun k hk => by rw [insI_fr (by omega), forgI_o (by omega)]; exact J_pl h1 k hk))
        refine ⟨rfl, _, e0, _, c_X8_bearing (I := (insI (forgI I) (aN A) p v)) hR.2.2 (n := aN A) h1.2.1.1 a.1 p v, fun r2 sh2 I2 L2 R2 hp2 => ?_⟩
        rcases hp2 with ⟨m0, hp2⟩ | ⟨m0, hp2⟩
        rotate_left
        · exact absurd (c0.symm.trans m0) (by decide)
        rcases hp2 with ⟨m1, hp2⟩ | ⟨m1, hp2⟩
        rotate_left
        · exact absurd (c1.symm.trans (q1.trans m1)) (by decide)
        rcases hp2 with ⟨m2, hp2⟩ | ⟨m2, hp2⟩
        rotate_left
        · exact absurd (c2.symm.trans m2) (by decide)
        obtain ⟨d0, d1, dI, dL, dR⟩ := hp2
        have d1 := d1.symm
        subst d1
        have dI := dI.symm
        subst dI
        have dL := dL.symm
        subst dL
        have dR := dR.symm
        subst dR
        refine ⟨rfl, ?_, ?_⟩
        · rw [d0]; exact congrArg (fun z => some (Value.int z)) (congrArg nI hb.2)
        · exact hb.1
      · skip
        obtain ⟨e0, e1, eI, eL, eR⟩ := hp
        have e1 := e1.symm
        subst e1
        have eI := eI.symm
        subst eI
        have eL := eL.symm
        subst eL
        have eR := eR.symm
        subst eR
        have q1 : (srch (I 2) p (aN A)).isNone = (srch (I (81 + 1)) p (aN A)).isNone := congrArg Option.isNone (srch_congr (J_pl h1))
        refine ⟨rfl, _, e0, _, c_X8_bearing (I := I) hR.2.2 (n := aN A) h1.2.1.1 a.1 p v, fun r2 sh2 I2 L2 R2 hp2 => ?_⟩
        rcases hp2 with ⟨m0, hp2⟩ | ⟨m0, hp2⟩
        rotate_left
        · exact absurd (c0.symm.trans m0) (by decide)
        rcases hp2 with ⟨m1, hp2⟩ | ⟨m1, hp2⟩
        rotate_left
        · exact absurd (c1.symm.trans (q1.trans m1)) (by decide)
        rcases hp2 with ⟨m2, hp2⟩ | ⟨m2, hp2⟩
        · exact absurd (c2.symm.trans m2) (by decide)
        obtain ⟨d0, d1, dI, dL, dR⟩ := hp2
        have d1 := d1.symm
        subst d1
        have dI := dI.symm
        subst dI
        have dL := dL.symm
        subst dL
        have dR := dR.symm
        subst dR
        exact ⟨rfl, d0, hJ0⟩
    · skip
      obtain ⟨e0, e1, eI, eL, eR⟩ := hp
      have e1 := e1.symm
      subst e1
      have eI := eI.symm
      subst eI
      have eL := eL.symm
      subst eL
      have eR := eR.symm
      subst eR
      have q1 : (srch (I 2) p (aN A)).isNone = (srch (I (81 + 1)) p (aN A)).isNone := congrArg Option.isNone (srch_congr (J_pl h1))
      refine ⟨rfl, _, e0, _, c_X8_bearing (I := I) hR.2.2 (n := aN A) h1.2.1.1 a.1 p v, fun r2 sh2 I2 L2 R2 hp2 => ?_⟩
      rcases hp2 with ⟨m0, hp2⟩ | ⟨m0, hp2⟩
      rotate_left
      · exact absurd (c0.symm.trans m0) (by decide)
      rcases hp2 with ⟨m1, hp2⟩ | ⟨m1, hp2⟩
      · exact absurd (c1.symm.trans (q1.trans m1)) (by decide)
      obtain ⟨d0, d1, dI, dL, dR⟩ := hp2
      have d1 := d1.symm
      subst d1
      have dI := dI.symm
      subst dI
      have dL := dL.symm
      subst dL
      have dR := dR.symm
      subst dR
      exact ⟨rfl, d0, hJ0⟩
  · skip
    obtain ⟨e0, e1, eI, eL, eR⟩ := hp
    have e1 := e1.symm
    subst e1
    have eI := eI.symm
    subst eI
    have eL := eL.symm
    subst eL
    have eR := eR.symm
    subst eR
    refine ⟨rfl, _, e0, _, c_X8_bearing (I := I) hR.2.2 (n := aN A) h1.2.1.1 a.1 p v, fun r2 sh2 I2 L2 R2 hp2 => ?_⟩
    rcases hp2 with ⟨m0, hp2⟩ | ⟨m0, hp2⟩
    · exact absurd (c0.symm.trans m0) (by decide)
    obtain ⟨d0, d1, dI, dL, dR⟩ := hp2
    have d1 := d1.symm
    subst d1
    have dI := dI.symm
    subst dI
    have dL := dL.symm
    subst dL
    have dR := dR.symm
    subst dR
    exact ⟨rfl, d0, hJ0⟩

theorem j_remove (hJ : JJ sh I L R) (b : Int32) : JMi sh I L R M_X7_remove M_X8_remove [.int b] := by
  have hJ0 := hJ
  obtain ⟨A, lo, hi, T, a, hR, h1, h2, h3, h4, h5, h6, h7⟩ := hJ
  refine ⟨_, c_X7_remove hR.1.1 h1.1.1 a.1 b, fun r sh1 I1 L1 R1 hp => ?_⟩
  rcases hp with ⟨c0, hp⟩ | ⟨c0, hp⟩
  · skip
    obtain ⟨e0, e1, eI, eL, eR⟩ := hp
    have e1 := e1.symm
    subst e1
    have eI := eI.symm
    subst eI
    have eL := eL.symm
    subst eL
    have eR := eR.symm
    subst eR
    have hb := px_ix_lt (isBn_ix (n := aN A) (N := aN A) c0 (Nat.le_refl _))
    refine ⟨rfl, _, e0, _, c_X8_remove (I := (delI (forgI I) (aN A) b.toNatClampNeg)) hR.2.2 (n := aN A) h1.2.1.1 a.1 b, fun r2 sh2 I2 L2 R2 hp2 => ?_⟩
    rcases hp2 with ⟨m0, hp2⟩ | ⟨m0, hp2⟩
    rotate_left
    · exact absurd (c0.symm.trans m0) (by decide)
    obtain ⟨d0, d1, dI, dL, dR⟩ := hp2
    have d1 := d1.symm
    subst d1
    have dI := dI.symm
    subst dI
    have dL := dL.symm
    subst dL
    have dR := dR.symm
    subst dR
    refine ⟨rfl, ?_, ?_⟩
    · exact d0
    · exact JJ_rem a hR h1 h2 h3 h4 h5 hb
  · skip
    obtain ⟨e0, e1, eI, eL, eR⟩ := hp
    have e1 := e1.symm
    subst e1
    have eI := eI.symm
    subst eI
    have eL := eL.symm
    subst eL
    have eR := eR.symm
    subst eR
    refine ⟨rfl, _, e0, _, c_X8_remove (I := I) hR.2.2 (n := aN A) h1.2.1.1 a.1 b, fun r2 sh2 I2 L2 R2 hp2 => ?_⟩
    rcases hp2 with ⟨m0, hp2⟩ | ⟨m0, hp2⟩
    · exact absurd (c0.symm.trans m0) (by decide)
    obtain ⟨d0, d1, dI, dL, dR⟩ := hp2
    have d1 := d1.symm
    subst d1
    have dI := dI.symm
    subst dI
    have dL := dL.symm
    subst dL
    have dR := dR.symm
    subst dR
    exact ⟨rfl, d0, hJ0⟩

theorem j_sheet (hJ : JJ sh I L R) (s l n : Int32) : JMi sh I L R M_X7_sheet M_X8_sheet [.int s, .int l, .int n] := by
  have hJ0 := hJ
  obtain ⟨A, lo, hi, T, a, hR, h1, h2, h3, h4, h5, h6, h7⟩ := hJ
  refine ⟨_, c_X7_sheet hR.1.1 s l n, fun r sh1 I1 L1 R1 hp => ?_⟩
  rcases hp with ⟨c0, hp⟩ | ⟨c0, hp⟩
  · skip
    rcases hp with ⟨c1, hp⟩ | ⟨c1, hp⟩
    · skip
      obtain ⟨e0, e1, eI, eL, eR⟩ := hp
      have e1 := e1.symm
      subst e1
      have eI := eI.symm
      subst eI
      have eL := eL.symm
      subst eL
      have eR := eR.symm
      subst eR
      have q0 := c0
      simp only [Bool.and_eq_true] at q0
      have ls := px_ix_lt (isW_ix (N := 4) q0.1.1 rfl (by decide))
      have hn : 0 ≤ n.toInt ∧ n.toInt ≤ 13 := by
        have k1 := Int32.le_iff_toInt_le.mp (of_decide_eq_true c1)
        have k2 := Int32.le_iff_toInt_le.mp (of_decide_eq_true q0.2)
        rw [z0I] at k1
        exact ⟨k1, k2⟩
      refine ⟨rfl, _, e0, _, c_X8_sheet (I := (begI I (73 + 2 * s.toNatClampNeg) l n)) hR.2.2 s l n, fun r2 sh2 I2 L2 R2 hp2 => ?_⟩
      rcases hp2 with ⟨m0, hp2⟩ | ⟨m0, hp2⟩
      rotate_left
      · exact absurd (c0.symm.trans m0) (by decide)
      rcases hp2 with ⟨m1, hp2⟩ | ⟨m1, hp2⟩
      rotate_left
      · exact absurd (c1.symm.trans m1) (by decide)
      obtain ⟨d0, d1, dI, dL, dR⟩ := hp2
      have d1 := d1.symm
      subst d1
      have dI := dI.symm
      subst dI
      have dL := dL.symm
      subst dL
      have dR := dR.symm
      subst dR
      refine ⟨rfl, ?_, ?_⟩
      · exact d0
      · exact JJ_sht a hR h1 h2 h3 h4 h5 h6 h7 ls (k_isW (c := 0) (d := 2) q0.1.2 rfl rfl) hn (fun k => by show (if 13 * s.toNatClampNeg ≤ k ∧ k < 13 * s.toNatClampNeg + 13 then 0 else begI I (73 + 2 * s.toNatClampNeg) l n 107 k) = _; rw [beg_o (by omega) (by omega)])
    · skip
      obtain ⟨e0, e1, eI, eL, eR⟩ := hp
      have e1 := e1.symm
      subst e1
      have eI := eI.symm
      subst eI
      have eL := eL.symm
      subst eL
      have eR := eR.symm
      subst eR
      refine ⟨rfl, _, e0, _, c_X8_sheet (I := I) hR.2.2 s l n, fun r2 sh2 I2 L2 R2 hp2 => ?_⟩
      rcases hp2 with ⟨m0, hp2⟩ | ⟨m0, hp2⟩
      rotate_left
      · exact absurd (c0.symm.trans m0) (by decide)
      rcases hp2 with ⟨m1, hp2⟩ | ⟨m1, hp2⟩
      · exact absurd (c1.symm.trans m1) (by decide)
      obtain ⟨d0, d1, dI, dL, dR⟩ := hp2
      have d1 := d1.symm
      subst d1
      have dI := dI.symm
      subst dI
      have dL := dL.symm
      subst dL
      have dR := dR.symm
      subst dR
      exact ⟨rfl, d0, hJ0⟩
  · skip
    obtain ⟨e0, e1, eI, eL, eR⟩ := hp
    have e1 := e1.symm
    subst e1
    have eI := eI.symm
    subst eI
    have eL := eL.symm
    subst eL
    have eR := eR.symm
    subst eR
    refine ⟨rfl, _, e0, _, c_X8_sheet (I := I) hR.2.2 s l n, fun r2 sh2 I2 L2 R2 hp2 => ?_⟩
    rcases hp2 with ⟨m0, hp2⟩ | ⟨m0, hp2⟩
    · exact absurd (c0.symm.trans m0) (by decide)
    obtain ⟨d0, d1, dI, dL, dR⟩ := hp2
    have d1 := d1.symm
    subst d1
    have dI := dI.symm
    subst dI
    have dL := dL.symm
    subst dL
    have dR := dR.symm
    subst dR
    exact ⟨rfl, d0, hJ0⟩

theorem j_drop (hJ : JJ sh I L R) (s : Int32) : JMi sh I L R M_X7_drop M_X8_drop [.int s] := by
  have hJ0 := hJ
  obtain ⟨A, lo, hi, T, a, hR, h1, h2, h3, h4, h5, h6, h7⟩ := hJ
  refine ⟨_, c_X7_drop hR.1.1 s, fun r sh1 I1 L1 R1 hp => ?_⟩
  rcases hp with ⟨c0, hp⟩ | ⟨c0, hp⟩
  · skip
    rcases hp with ⟨c1, hp⟩ | ⟨c1, hp⟩
    · skip
      obtain ⟨e0, e1, eI, eL, eR⟩ := hp
      have e1 := e1.symm
      subst e1
      have eI := eI.symm
      subst eI
      have eL := eL.symm
      subst eL
      have eR := eR.symm
      subst eR
      have ls := px_ix_lt (isW_ix (N := 4) c0 rfl (by decide))
      have q1 : decide (I (73 + 2 * s.toNatClampNeg) 0 = 0) = decide (I (81 + 24) s.toNatClampNeg < 0) := by have q9 := (h4 _ ls).2.2.2.1; simp only [q9]
      refine ⟨rfl, _, e0, _, c_X8_drop (I := I) hR.2.2 s, fun r2 sh2 I2 L2 R2 hp2 => ?_⟩
      rcases hp2 with ⟨m0, hp2⟩ | ⟨m0, hp2⟩
      rotate_left
      · exact absurd (c0.symm.trans m0) (by decide)
      rcases hp2 with ⟨m1, hp2⟩ | ⟨m1, hp2⟩
      rotate_left
      · exact absurd (c1.symm.trans (q1.trans m1)) (by decide)
      obtain ⟨d0, d1, dI, dL, dR⟩ := hp2
      have d1 := d1.symm
      subst d1
      have dI := dI.symm
      subst dI
      have dL := dL.symm
      subst dL
      have dR := dR.symm
      subst dR
      exact ⟨rfl, d0, hJ0⟩
    · skip
      obtain ⟨e0, e1, eI, eL, eR⟩ := hp
      have e1 := e1.symm
      subst e1
      have eI := eI.symm
      subst eI
      have eL := eL.symm
      subst eL
      have eR := eR.symm
      subst eR
      have ls := px_ix_lt (isW_ix (N := 4) c0 rfl (by decide))
      have q1 : decide (I (73 + 2 * s.toNatClampNeg) 0 = 0) = decide ((u2 I (73 + 2 * s.toNatClampNeg) 0 0) (81 + 24) s.toNatClampNeg < 0) := by have q9 := (h4 _ ls).2.2.2.1; rw [u2_n1 (by omega)]; simp only [q9]
      refine ⟨rfl, _, e0, _, c_X8_drop (I := (u2 I (73 + 2 * s.toNatClampNeg) 0 0)) hR.2.2 s, fun r2 sh2 I2 L2 R2 hp2 => ?_⟩
      rcases hp2 with ⟨m0, hp2⟩ | ⟨m0, hp2⟩
      rotate_left
      · exact absurd (c0.symm.trans m0) (by decide)
      rcases hp2 with ⟨m1, hp2⟩ | ⟨m1, hp2⟩
      · exact absurd (c1.symm.trans (q1.trans m1)) (by decide)
      obtain ⟨d0, d1, dI, dL, dR⟩ := hp2
      have d1 := d1.symm
      subst d1
      have dI := dI.symm
      subst dI
      have dL := dL.symm
      subst dL
      have dR := dR.symm
      subst dR
      refine ⟨rfl, ?_, ?_⟩
      · rw [d0]; exact congrArg (fun z => some (Value.int z)) (by rw [u2_n1 (by omega)]; exact (h4 _ ls).2.2.1)
      · exact JJ_drp a hR h1 h2 h3 h4 h5 h6 h7 ls
  · skip
    obtain ⟨e0, e1, eI, eL, eR⟩ := hp
    have e1 := e1.symm
    subst e1
    have eI := eI.symm
    subst eI
    have eL := eL.symm
    subst eL
    have eR := eR.symm
    subst eR
    refine ⟨rfl, _, e0, _, c_X8_drop (I := I) hR.2.2 s, fun r2 sh2 I2 L2 R2 hp2 => ?_⟩
    rcases hp2 with ⟨m0, hp2⟩ | ⟨m0, hp2⟩
    · exact absurd (c0.symm.trans m0) (by decide)
    obtain ⟨d0, d1, dI, dL, dR⟩ := hp2
    have d1 := d1.symm
    subst d1
    have dI := dI.symm
    subst dI
    have dL := dL.symm
    subst dL
    have dR := dR.symm
    subst dR
    exact ⟨rfl, d0, hJ0⟩

theorem j_item (hJ : JJ sh I L R) (s l i v : Int32) : JMi sh I L R M_X7_item M_X8_item [.int s, .int l, .int i, .int v] := by
  have hJ0 := hJ
  obtain ⟨A, lo, hi, T, a, hR, h1, h2, h3, h4, h5, h6, h7⟩ := hJ
  refine ⟨_, c_X7_item hR.1.1 (fun j hj => (h4 j hj).1) (fun j hj => (h4 j hj).2.1) s l i v, fun r sh1 I1 L1 R1 hp => ?_⟩
  rcases hp with ⟨c0, hp⟩ | ⟨c0, hp⟩
  · skip
    rcases hp with ⟨c1, hp⟩ | ⟨c1, hp⟩
    · skip
      obtain ⟨e0, e1, eI, eL, eR⟩ := hp
      have e1 := e1.symm
      subst e1
      have eI := eI.symm
      subst eI
      have eL := eL.symm
      subst eL
      have eR := eR.symm
      subst eR
      have q0 := c0
      simp only [Bool.and_eq_true] at q0
      have ls := px_ix_lt (isW_ix (N := 4) q0.1 rfl (by decide))
      have q1 : decide (faultS (I (73 + 2 * s.toNatClampNeg) 0) (I (73 + 2 * s.toNatClampNeg) 1) (I (73 + 2 * s.toNatClampNeg) 2) l i 1 < 0) = decide (faultM (I (81 + 24) s.toNatClampNeg) (I (81 + 25) s.toNatClampNeg) l i 1 < 0) := by rw [fault_eq h4 ls (by decide)]
      refine ⟨rfl, _, e0, _, c_X8_item (I := I) hR.2.2 (fun j hj => by first | (rw [u2_n1 (by omega), (h4 j hj).2.2.1]; exact (h4 j hj).1.2) | (rw [(h4 j hj).2.2.1]; exact (h4 j hj).1.2)) s l i v, fun r2 sh2 I2 L2 R2 hp2 => ?_⟩
      rcases hp2 with ⟨m0, hp2⟩ | ⟨m0, hp2⟩
      rotate_left
      · exact absurd (c0.symm.trans m0) (by decide)
      rcases hp2 with ⟨m1, hp2⟩ | ⟨m1, hp2⟩
      rotate_left
      · exact absurd (c1.symm.trans (q1.trans m1)) (by decide)
      obtain ⟨d0, d1, dI, dL, dR⟩ := hp2
      have d1 := d1.symm
      subst d1
      have dI := dI.symm
      subst dI
      have dL := dL.symm
      subst dL
      have dR := dR.symm
      subst dR
      refine ⟨rfl, ?_, ?_⟩
      · rw [d0]; exact congrArg (fun z => some (Value.int z)) (fault_eq h4 ls (by decide)).symm
      · exact hJ0
    · skip
      obtain ⟨e0, e1, eI, eL, eR⟩ := hp
      have e1 := e1.symm
      subst e1
      have eI := eI.symm
      subst eI
      have eL := eL.symm
      subst eL
      have eR := eR.symm
      subst eR
      have q0 := c0
      simp only [Bool.and_eq_true] at q0
      have ls := px_ix_lt (isW_ix (N := 4) q0.1 rfl (by decide))
      have q1 : decide (faultS (I (73 + 2 * s.toNatClampNeg) 0) (I (73 + 2 * s.toNatClampNeg) 1) (I (73 + 2 * s.toNatClampNeg) 2) l i 1 < 0) = decide (faultM ((u2 I ((73 + 2 * s.toNatClampNeg) + 1) i.toNatClampNeg (nrw l v)) (81 + 24) s.toNatClampNeg) ((u2 I ((73 + 2 * s.toNatClampNeg) + 1) i.toNatClampNeg (nrw l v)) (81 + 25) s.toNatClampNeg) l i 1 < 0) := by rw [u2_n1 (by omega), u2_n1 (by omega)]; rw [fault_eq h4 ls (by decide)]
      have hi13 : i.toNatClampNeg < 13 := by
        have k1 := faultS_ok (of_decide_eq_false c1)
        have k2 := hasB_in k1.2.2 (h4 _ ls).1
        have k3 := k_nn k2.1
        have k4 : (1 : Int32).toInt = 1 := rfl
        have k5 := (h4 _ ls).1.2
        omega
      refine ⟨rfl, _, e0, _, c_X8_item (I := (u2 I ((73 + 2 * s.toNatClampNeg) + 1) i.toNatClampNeg (nrw l v))) hR.2.2 (fun j hj => by first | (rw [u2_n1 (by omega), (h4 j hj).2.2.1]; exact (h4 j hj).1.2) | (rw [(h4 j hj).2.2.1]; exact (h4 j hj).1.2)) s l i v, fun r2 sh2 I2 L2 R2 hp2 => ?_⟩
      rcases hp2 with ⟨m0, hp2⟩ | ⟨m0, hp2⟩
      rotate_left
      · exact absurd (c0.symm.trans m0) (by decide)
      rcases hp2 with ⟨m1, hp2⟩ | ⟨m1, hp2⟩
      · exact absurd (c1.symm.trans (q1.trans m1)) (by decide)
      obtain ⟨d0, d1, dI, dL, dR⟩ := hp2
      have d1 := d1.symm
      subst d1
      have dI := dI.symm
      subst dI
      have dL := dL.symm
      subst dL
      have dR := dR.symm
      subst dR
      refine ⟨rfl, ?_, ?_⟩
      · exact d0
      · exact JJ_itm a hR h1 h2 h3 h4 h5 h6 h7 ls (by omega) hi13
  · skip
    obtain ⟨e0, e1, eI, eL, eR⟩ := hp
    have e1 := e1.symm
    subst e1
    have eI := eI.symm
    subst eI
    have eL := eL.symm
    subst eL
    have eR := eR.symm
    subst eR
    refine ⟨rfl, _, e0, _, c_X8_item (I := I) hR.2.2 (fun j hj => by first | (rw [u2_n1 (by omega), (h4 j hj).2.2.1]; exact (h4 j hj).1.2) | (rw [(h4 j hj).2.2.1]; exact (h4 j hj).1.2)) s l i v, fun r2 sh2 I2 L2 R2 hp2 => ?_⟩
    rcases hp2 with ⟨m0, hp2⟩ | ⟨m0, hp2⟩
    · exact absurd (c0.symm.trans m0) (by decide)
    obtain ⟨d0, d1, dI, dL, dR⟩ := hp2
    have d1 := d1.symm
    subst d1
    have dI := dI.symm
    subst dI
    have dL := dL.symm
    subst dL
    have dR := dR.symm
    subst dR
    exact ⟨rfl, d0, hJ0⟩

theorem cpy_eq {c d i j n : Int32} (hc : 0 ≤ c.toInt ∧ c.toInt ≤ 13) (hd : 0 ≤ d.toInt ∧ d.toInt ≤ 13) : (hasB c i n && hasB d j n) = (decide (¬ n < 0) && hasM c i n && hasM d j n) := by
  by_cases h : n < 0
  · rw [decide_eq_false (fun q => q h), Bool.false_and, Bool.false_and]
    have : hasB c i n = false := decide_eq_false (fun q => q.2.1 h)
    rw [this, Bool.false_and]
  · have h0 : 0 ≤ n.toInt := by
      rw [Int32.lt_iff_toInt_lt, z0I] at h
      omega
    rw [decide_eq_true h, Bool.true_and, has_eq hc h0, has_eq hd h0]

theorem j_copy (hJ : JJ sh I L R) (s i t j n : Int32) : JMi sh I L R M_X7_copy M_X8_copy [.int s, .int i, .int t, .int j, .int n] := by
  have hJ0 := hJ
  obtain ⟨A, lo, hi, T, a, hR, h1, h2, h3, h4, h5, h6, h7⟩ := hJ
  refine ⟨_, c_X7_copy hR.1.1 (fun j hj => (h4 j hj).1) (fun j hj => (h4 j hj).2.1) s i t j n, fun r sh1 I1 L1 R1 hp => ?_⟩
  rcases hp with ⟨c0, hp⟩ | ⟨c0, hp⟩
  · skip
    rcases hp with ⟨c1, hp⟩ | ⟨c1, hp⟩
    · skip
      rcases hp with ⟨c2, hp⟩ | ⟨c2, hp⟩
      · skip
        rcases hp with ⟨c3, hp⟩ | ⟨c3, hp⟩
        · skip
          obtain ⟨e0, e1, eI, eL, eR⟩ := hp
          have e1 := e1.symm
          subst e1
          have eI := eI.symm
          subst eI
          have eL := eL.symm
          subst eL
          have eR := eR.symm
          subst eR
          have q0 := c0
          simp only [Bool.and_eq_true] at q0
          have ls := px_ix_lt (isW_ix (N := 4) q0.1 rfl (by decide))
          have lt := px_ix_lt (isW_ix (N := 4) q0.2 rfl (by decide))
          have hh := of_decide_eq_true c1
          have q1 : decide (¬ I (73 + 2 * s.toNatClampNeg) 0 = 0 ∧ ¬ I (73 + 2 * t.toNatClampNeg) 0 = 0) = decide (¬ (u1 I ((73 + 2 * t.toNatClampNeg) + 1) (va_cpy (I ((73 + 2 * s.toNatClampNeg) + 1)) (I ((73 + 2 * t.toNatClampNeg) + 1)) i.toNatClampNeg j.toNatClampNeg n.toNatClampNeg)) (81 + 24) s.toNatClampNeg < 0 ∧ ¬ (u1 I ((73 + 2 * t.toNatClampNeg) + 1) (va_cpy (I ((73 + 2 * s.toNatClampNeg) + 1)) (I ((73 + 2 * t.toNatClampNeg) + 1)) i.toNatClampNeg j.toNatClampNeg n.toNatClampNeg)) (81 + 24) t.toNatClampNeg < 0) := by rw [u1_o (by omega)]; have q8 := (h4 _ ls).2.2.2.1; have q9 := (h4 _ lt).2.2.2.1; simp only [q8, q9]
          have q2 : decide (I (73 + 2 * s.toNatClampNeg) 1 = I (73 + 2 * t.toNatClampNeg) 1) = decide ((u1 I ((73 + 2 * t.toNatClampNeg) + 1) (va_cpy (I ((73 + 2 * s.toNatClampNeg) + 1)) (I ((73 + 2 * t.toNatClampNeg) + 1)) i.toNatClampNeg j.toNatClampNeg n.toNatClampNeg)) (81 + 24) s.toNatClampNeg = (u1 I ((73 + 2 * t.toNatClampNeg) + 1) (va_cpy (I ((73 + 2 * s.toNatClampNeg) + 1)) (I ((73 + 2 * t.toNatClampNeg) + 1)) i.toNatClampNeg j.toNatClampNeg n.toNatClampNeg)) (81 + 24) t.toNatClampNeg) := by rw [u1_o (by omega)]; rw [← (h4 _ ls).2.2.2.2.1 hh.1, ← (h4 _ lt).2.2.2.2.1 hh.2]
          have q3 : (hasB (I (73 + 2 * s.toNatClampNeg) 2) i n && hasB (I (73 + 2 * t.toNatClampNeg) 2) j n) = (decide (¬ n < 0) && hasM ((u1 I ((73 + 2 * t.toNatClampNeg) + 1) (va_cpy (I ((73 + 2 * s.toNatClampNeg) + 1)) (I ((73 + 2 * t.toNatClampNeg) + 1)) i.toNatClampNeg j.toNatClampNeg n.toNatClampNeg)) (81 + 25) s.toNatClampNeg) i n && hasM ((u1 I ((73 + 2 * t.toNatClampNeg) + 1) (va_cpy (I ((73 + 2 * s.toNatClampNeg) + 1)) (I ((73 + 2 * t.toNatClampNeg) + 1)) i.toNatClampNeg j.toNatClampNeg n.toNatClampNeg)) (81 + 25) t.toNatClampNeg) j n) := by rw [u1_o (by omega)]; rw [(h4 _ ls).2.2.1, (h4 _ lt).2.2.1]; exact cpy_eq (h4 _ ls).1 (h4 _ lt).1
          have k5 : i.toNatClampNeg + n.toNatClampNeg ≤ 13 ∧ j.toNatClampNeg + n.toNatClampNeg ≤ 13 := by
            rw [Bool.and_eq_true] at c3
            have k1 := hasB_in c3.1 (h4 _ ls).1
            have k2 := hasB_in c3.2 (h4 _ lt).1
            have k3 := k_nn k1.1
            have k4 := k_nn k2.1
            have k6 := k_nn k1.2.1
            have k7 := (h4 _ ls).1.2
            have k8 := (h4 _ lt).1.2
            omega
          refine ⟨rfl, _, e0, _, c_X8_copy (I := (u1 I ((73 + 2 * t.toNatClampNeg) + 1) (va_cpy (I ((73 + 2 * s.toNatClampNeg) + 1)) (I ((73 + 2 * t.toNatClampNeg) + 1)) i.toNatClampNeg j.toNatClampNeg n.toNatClampNeg))) hR.2.2 (fun z hz => by first | (rw [u1_o (by omega), (h4 z hz).2.2.1]; exact (h4 z hz).1.2) | (rw [(h4 z hz).2.2.1]; exact (h4 z hz).1.2)) s i t j n, fun r2 sh2 I2 L2 R2 hp2 => ?_⟩
          rcases hp2 with ⟨m0, hp2⟩ | ⟨m0, hp2⟩
          rotate_left
          · exact absurd (c0.symm.trans m0) (by decide)
          rcases hp2 with ⟨m1, hp2⟩ | ⟨m1, hp2⟩
          rotate_left
          · exact absurd (c1.symm.trans (q1.trans m1)) (by decide)
          rcases hp2 with ⟨m2, hp2⟩ | ⟨m2, hp2⟩
          rotate_left
          · exact absurd (c2.symm.trans (q2.trans m2)) (by decide)
          rcases hp2 with ⟨m3, hp2⟩ | ⟨m3, hp2⟩
          rotate_left
          · exact absurd (c3.symm.trans (q3.trans m3)) (by decide)
          obtain ⟨d0, d1, dI, dL, dR⟩ := hp2
          have d1 := d1.symm
          subst d1
          have dI := dI.symm
          subst dI
          have dL := dL.symm
          subst dL
          have dR := dR.symm
          subst dR
          refine ⟨rfl, ?_, ?_⟩
          · exact d0
          · exact JJ_cpy a hR h1 h2 h3 h4 h5 h6 h7 ls lt (by omega) (by omega) k5.1 k5.2 (fun q => by show (if _ then (u1 I ((73 + 2 * t.toNatClampNeg) + 1) (va_cpy (I ((73 + 2 * s.toNatClampNeg) + 1)) (I ((73 + 2 * t.toNatClampNeg) + 1)) i.toNatClampNeg j.toNatClampNeg n.toNatClampNeg)) 107 _ else (u1 I ((73 + 2 * t.toNatClampNeg) + 1) (va_cpy (I ((73 + 2 * s.toNatClampNeg) + 1)) (I ((73 + 2 * t.toNatClampNeg) + 1)) i.toNatClampNeg j.toNatClampNeg n.toNatClampNeg)) 107 q) = _; rw [u1_o (by omega)])
        · skip
          obtain ⟨e0, e1, eI, eL, eR⟩ := hp
          have e1 := e1.symm
          subst e1
          have eI := eI.symm
          subst eI
          have eL := eL.symm
          subst eL
          have eR := eR.symm
          subst eR
          have q0 := c0
          simp only [Bool.and_eq_true] at q0
          have ls := px_ix_lt (isW_ix (N := 4) q0.1 rfl (by decide))
          have lt := px_ix_lt (isW_ix (N := 4) q0.2 rfl (by decide))
          have hh := of_decide_eq_true c1
          have q1 : decide (¬ I (73 + 2 * s.toNatClampNeg) 0 = 0 ∧ ¬ I (73 + 2 * t.toNatClampNeg) 0 = 0) = decide (¬ I (81 + 24) s.toNatClampNeg < 0 ∧ ¬ I (81 + 24) t.toNatClampNeg < 0) := by have q8 := (h4 _ ls).2.2.2.1; have q9 := (h4 _ lt).2.2.2.1; simp only [q8, q9]
          have q2 : decide (I (73 + 2 * s.toNatClampNeg) 1 = I (73 + 2 * t.toNatClampNeg) 1) = decide (I (81 + 24) s.toNatClampNeg = I (81 + 24) t.toNatClampNeg) := by rw [← (h4 _ ls).2.2.2.2.1 hh.1, ← (h4 _ lt).2.2.2.2.1 hh.2]
          have q3 : (hasB (I (73 + 2 * s.toNatClampNeg) 2) i n && hasB (I (73 + 2 * t.toNatClampNeg) 2) j n) = (decide (¬ n < 0) && hasM (I (81 + 25) s.toNatClampNeg) i n && hasM (I (81 + 25) t.toNatClampNeg) j n) := by rw [(h4 _ ls).2.2.1, (h4 _ lt).2.2.1]; exact cpy_eq (h4 _ ls).1 (h4 _ lt).1
          refine ⟨rfl, _, e0, _, c_X8_copy (I := I) hR.2.2 (fun z hz => by first | (rw [u1_o (by omega), (h4 z hz).2.2.1]; exact (h4 z hz).1.2) | (rw [(h4 z hz).2.2.1]; exact (h4 z hz).1.2)) s i t j n, fun r2 sh2 I2 L2 R2 hp2 => ?_⟩
          rcases hp2 with ⟨m0, hp2⟩ | ⟨m0, hp2⟩
          rotate_left
          · exact absurd (c0.symm.trans m0) (by decide)
          rcases hp2 with ⟨m1, hp2⟩ | ⟨m1, hp2⟩
          rotate_left
          · exact absurd (c1.symm.trans (q1.trans m1)) (by decide)
          rcases hp2 with ⟨m2, hp2⟩ | ⟨m2, hp2⟩
          rotate_left
          · exact absurd (c2.symm.trans (q2.trans m2)) (by decide)
          rcases hp2 with ⟨m3, hp2⟩ | ⟨m3, hp2⟩
          · exact absurd (c3.symm.trans (q3.trans m3)) (by decide)
          obtain ⟨d0, d1, dI, dL, dR⟩ := hp2
          have d1 := d1.symm
          subst d1
          have dI := dI.symm
          subst dI
          have dL := dL.symm
          subst dL
          have dR := dR.symm
          subst dR
          exact ⟨rfl, d0, hJ0⟩
      · skip
        obtain ⟨e0, e1, eI, eL, eR⟩ := hp
        have e1 := e1.symm
        subst e1
        have eI := eI.symm
        subst eI
        have eL := eL.symm
        subst eL
        have eR := eR.symm
        subst eR
        have q0 := c0
        simp only [Bool.and_eq_true] at q0
        have ls := px_ix_lt (isW_ix (N := 4) q0.1 rfl (by decide))
        have lt := px_ix_lt (isW_ix (N := 4) q0.2 rfl (by decide))
        have hh := of_decide_eq_true c1
        have q1 : decide (¬ I (73 + 2 * s.toNatClampNeg) 0 = 0 ∧ ¬ I (73 + 2 * t.toNatClampNeg) 0 = 0) = decide (¬ I (81 + 24) s.toNatClampNeg < 0 ∧ ¬ I (81 + 24) t.toNatClampNeg < 0) := by have q8 := (h4 _ ls).2.2.2.1; have q9 := (h4 _ lt).2.2.2.1; simp only [q8, q9]
        have q2 : decide (I (73 + 2 * s.toNatClampNeg) 1 = I (73 + 2 * t.toNatClampNeg) 1) = decide (I (81 + 24) s.toNatClampNeg = I (81 + 24) t.toNatClampNeg) := by rw [← (h4 _ ls).2.2.2.2.1 hh.1, ← (h4 _ lt).2.2.2.2.1 hh.2]
        refine ⟨rfl, _, e0, _, c_X8_copy (I := I) hR.2.2 (fun z hz => by first | (rw [u1_o (by omega), (h4 z hz).2.2.1]; exact (h4 z hz).1.2) | (rw [(h4 z hz).2.2.1]; exact (h4 z hz).1.2)) s i t j n, fun r2 sh2 I2 L2 R2 hp2 => ?_⟩
        rcases hp2 with ⟨m0, hp2⟩ | ⟨m0, hp2⟩
        rotate_left
        · exact absurd (c0.symm.trans m0) (by decide)
        rcases hp2 with ⟨m1, hp2⟩ | ⟨m1, hp2⟩
        rotate_left
        · exact absurd (c1.symm.trans (q1.trans m1)) (by decide)
        rcases hp2 with ⟨m2, hp2⟩ | ⟨m2, hp2⟩
        · exact absurd (c2.symm.trans (q2.trans m2)) (by decide)
        obtain ⟨d0, d1, dI, dL, dR⟩ := hp2
        have d1 := d1.symm
        subst d1
        have dI := dI.symm
        subst dI
        have dL := dL.symm
        subst dL
        have dR := dR.symm
        subst dR
        exact ⟨rfl, d0, hJ0⟩
    · skip
      obtain ⟨e0, e1, eI, eL, eR⟩ := hp
      have e1 := e1.symm
      subst e1
      have eI := eI.symm
      subst eI
      have eL := eL.symm
      subst eL
      have eR := eR.symm
      subst eR
      have q0 := c0
      simp only [Bool.and_eq_true] at q0
      have ls := px_ix_lt (isW_ix (N := 4) q0.1 rfl (by decide))
      have lt := px_ix_lt (isW_ix (N := 4) q0.2 rfl (by decide))
      have q1 : decide (¬ I (73 + 2 * s.toNatClampNeg) 0 = 0 ∧ ¬ I (73 + 2 * t.toNatClampNeg) 0 = 0) = decide (¬ I (81 + 24) s.toNatClampNeg < 0 ∧ ¬ I (81 + 24) t.toNatClampNeg < 0) := by have q8 := (h4 _ ls).2.2.2.1; have q9 := (h4 _ lt).2.2.2.1; simp only [q8, q9]
      refine ⟨rfl, _, e0, _, c_X8_copy (I := I) hR.2.2 (fun z hz => by first | (rw [u1_o (by omega), (h4 z hz).2.2.1]; exact (h4 z hz).1.2) | (rw [(h4 z hz).2.2.1]; exact (h4 z hz).1.2)) s i t j n, fun r2 sh2 I2 L2 R2 hp2 => ?_⟩
      rcases hp2 with ⟨m0, hp2⟩ | ⟨m0, hp2⟩
      rotate_left
      · exact absurd (c0.symm.trans m0) (by decide)
      rcases hp2 with ⟨m1, hp2⟩ | ⟨m1, hp2⟩
      · exact absurd (c1.symm.trans (q1.trans m1)) (by decide)
      obtain ⟨d0, d1, dI, dL, dR⟩ := hp2
      have d1 := d1.symm
      subst d1
      have dI := dI.symm
      subst dI
      have dL := dL.symm
      subst dL
      have dR := dR.symm
      subst dR
      exact ⟨rfl, d0, hJ0⟩
  · skip
    obtain ⟨e0, e1, eI, eL, eR⟩ := hp
    have e1 := e1.symm
    subst e1
    have eI := eI.symm
    subst eI
    have eL := eL.symm
    subst eL
    have eR := eR.symm
    subst eR
    refine ⟨rfl, _, e0, _, c_X8_copy (I := I) hR.2.2 (fun z hz => by first | (rw [u1_o (by omega), (h4 z hz).2.2.1]; exact (h4 z hz).1.2) | (rw [(h4 z hz).2.2.1]; exact (h4 z hz).1.2)) s i t j n, fun r2 sh2 I2 L2 R2 hp2 => ?_⟩
    rcases hp2 with ⟨m0, hp2⟩ | ⟨m0, hp2⟩
    · exact absurd (c0.symm.trans m0) (by decide)
    obtain ⟨d0, d1, dI, dL, dR⟩ := hp2
    have d1 := d1.symm
    subst d1
    have dI := dI.symm
    subst dI
    have dL := dL.symm
    subst dL
    have dR := dR.symm
    subst dR
    exact ⟨rfl, d0, hJ0⟩

theorem j_type (hJ : JJ sh I L R) (w : Int64) (n : Int32) : JMi sh I L R M_X7_type M_X8_type [.long w, .int n] := by
  have hJ0 := hJ
  obtain ⟨A, lo, hi, T, a, hR, h1, h2, h3, h4, h5, h6, h7⟩ := hJ
  refine ⟨_, c_X7_type hR.1.1 h3.1 h3.2.2.1 w n, fun r sh1 I1 L1 R1 hp => ?_⟩
  rcases hp with ⟨c0, hp⟩ | ⟨c0, hp⟩
  · skip
    rcases hp with ⟨c1, hp⟩ | ⟨c1, hp⟩
    · skip
      rcases hp with ⟨c2, hp⟩ | ⟨c2, hp⟩
      · skip
        obtain ⟨e0, e1, eI, eL, eR⟩ := hp
        have e1 := e1.symm
        subst e1
        have eI := eI.symm
        subst eI
        have eL := eL.symm
        subst eL
        have eR := eR.symm
        subst eR
        refine ⟨rfl, _, e0, _, c_X8_type (I := (tapI I 12 0 3 T w n.toNatClampNeg n.toNatClampNeg)) hR.2.2 (T := T) h3.2.1 h3.2.2.1 w n, fun r2 sh2 I2 L2 R2 hp2 => ?_⟩
        rcases hp2 with ⟨m0, hp2⟩ | ⟨m0, hp2⟩
        rotate_left
        · exact absurd (c0.symm.trans m0) (by decide)
        rcases hp2 with ⟨m1, hp2⟩ | ⟨m1, hp2⟩
        rotate_left
        · exact absurd (c1.symm.trans m1) (by decide)
        rcases hp2 with ⟨m2, hp2⟩ | ⟨m2, hp2⟩
        rotate_left
        · exact absurd (c2.symm.trans m2) (by decide)
        obtain ⟨d0, d1, dI, dL, dR⟩ := hp2
        have d1 := d1.symm
        subst d1
        have dI := dI.symm
        subst dI
        have dL := dL.symm
        subst dL
        have dR := dR.symm
        subst dR
        refine ⟨rfl, ?_, ?_⟩
        · exact d0
        · exact JJ_typ a hR h1 h2 h3 h4 h5 h6 h7 (of_decide_eq_true c2) (allB_t c1)
      · skip
        obtain ⟨e0, e1, eI, eL, eR⟩ := hp
        have e1 := e1.symm
        subst e1
        have eI := eI.symm
        subst eI
        have eL := eL.symm
        subst eL
        have eR := eR.symm
        subst eR
        refine ⟨rfl, _, e0, _, c_X8_type (I := I) hR.2.2 (T := T) h3.2.1 h3.2.2.1 w n, fun r2 sh2 I2 L2 R2 hp2 => ?_⟩
        rcases hp2 with ⟨m0, hp2⟩ | ⟨m0, hp2⟩
        rotate_left
        · exact absurd (c0.symm.trans m0) (by decide)
        rcases hp2 with ⟨m1, hp2⟩ | ⟨m1, hp2⟩
        rotate_left
        · exact absurd (c1.symm.trans m1) (by decide)
        rcases hp2 with ⟨m2, hp2⟩ | ⟨m2, hp2⟩
        · exact absurd (c2.symm.trans m2) (by decide)
        obtain ⟨d0, d1, dI, dL, dR⟩ := hp2
        have d1 := d1.symm
        subst d1
        have dI := dI.symm
        subst dI
        have dL := dL.symm
        subst dL
        have dR := dR.symm
        subst dR
        exact ⟨rfl, d0, hJ0⟩
    · skip
      obtain ⟨e0, e1, eI, eL, eR⟩ := hp
      have e1 := e1.symm
      subst e1
      have eI := eI.symm
      subst eI
      have eL := eL.symm
      subst eL
      have eR := eR.symm
      subst eR
      refine ⟨rfl, _, e0, _, c_X8_type (I := I) hR.2.2 (T := T) h3.2.1 h3.2.2.1 w n, fun r2 sh2 I2 L2 R2 hp2 => ?_⟩
      rcases hp2 with ⟨m0, hp2⟩ | ⟨m0, hp2⟩
      rotate_left
      · exact absurd (c0.symm.trans m0) (by decide)
      rcases hp2 with ⟨m1, hp2⟩ | ⟨m1, hp2⟩
      · exact absurd (c1.symm.trans m1) (by decide)
      obtain ⟨d0, d1, dI, dL, dR⟩ := hp2
      have d1 := d1.symm
      subst d1
      have dI := dI.symm
      subst dI
      have dL := dL.symm
      subst dL
      have dR := dR.symm
      subst dR
      exact ⟨rfl, d0, hJ0⟩
  · skip
    obtain ⟨e0, e1, eI, eL, eR⟩ := hp
    have e1 := e1.symm
    subst e1
    have eI := eI.symm
    subst eI
    have eL := eL.symm
    subst eL
    have eR := eR.symm
    subst eR
    refine ⟨rfl, _, e0, _, c_X8_type (I := I) hR.2.2 (T := T) h3.2.1 h3.2.2.1 w n, fun r2 sh2 I2 L2 R2 hp2 => ?_⟩
    rcases hp2 with ⟨m0, hp2⟩ | ⟨m0, hp2⟩
    · exact absurd (c0.symm.trans m0) (by decide)
    obtain ⟨d0, d1, dI, dL, dR⟩ := hp2
    have d1 := d1.symm
    subst d1
    have dI := dI.symm
    subst dI
    have dL := dL.symm
    subst dL
    have dR := dR.symm
    subst dR
    exact ⟨rfl, d0, hJ0⟩

end J5
