/-! calls that change nothing, or one number -/
section J1
variable {sh : Sh} {I : IM} {L : LM} {R : RM}
theorem j_told (hJ : JJ sh I L R) (b w : Int32) : JMi sh I L R M_X7_told M_X8_told [.int b, .int w] := by
  have hJ0 := hJ
  obtain ⟨A, lo, hi, T, a, hR, h1, h2, h3, h4, h5, h6, h7⟩ := hJ
  refine ⟨_, c_X7_told hR.1.1 h1.1.1 a.1 b w, fun r sh1 I1 L1 R1 hp => ?_⟩
  rcases hp with ⟨c, e0, rfl, rfl, rfl, rfl⟩ | ⟨c, e0, rfl, rfl, rfl, rfl⟩
  · refine ⟨rfl, _, e0, _, c_X8_told hR.2.2 h1.2.1.1 a.1 b w, fun r2 sh2 I2 L2 R2 hp2 => ?_⟩
    rcases hp2 with ⟨c2, d0, rfl, rfl, rfl, rfl⟩ | ⟨c2, _⟩
    · refine ⟨rfl, ?_, hJ0⟩
      rw [d0]
      have c' := c
      rw [Bool.and_eq_true] at c'
      have hb := px_ix_lt (isBn_ix (n := aN A) (N := aN A) c'.1 (Nat.le_refl _))
      have hw := px_ix_lt (isW_ix (N := 4) c'.2 rfl (by decide))
      have e1 := J_pl h1 _ hb
      have e2 := J_off h1 _ hb
      have e3 := h1.2.2 _ hb
      generalize b.toNatClampNeg = x at *
      generalize w.toNatClampNeg = y at *
      have : y = 0 ∨ y = 1 ∨ y = 2 ∨ y = 3 := by omega
      rcases this with e | e | e | e <;> subst e
      · exact congrArg (fun z => some (Value.int z)) e1.symm
      · exact congrArg (fun z => some (Value.int z)) e2.symm
      · exact congrArg (fun z => some (Value.int z)) e3.1.symm
      · exact congrArg (fun z => some (Value.int z)) e3.2.1.symm
    · rw [c] at c2; cases c2
  · refine ⟨rfl, _, e0, _, c_X8_told hR.2.2 h1.2.1.1 a.1 b w, fun r2 sh2 I2 L2 R2 hp2 => ?_⟩
    rcases hp2 with ⟨c2, _⟩ | ⟨c2, d0, rfl, rfl, rfl, rfl⟩
    · rw [c] at c2; cases c2
    · exact ⟨rfl, d0, hJ0⟩
theorem j_count (hJ : JJ sh I L R) (w : Int32) : JMi sh I L R M_X7_count M_X8_count [.int w] := by
  have hJ0 := hJ
  obtain ⟨A, lo, hi, T, a, hR, h1, h2, h3, h4, h5, h6, h7⟩ := hJ
  refine ⟨_, c_X7_count hR.1.1 h1.1.1 a.1 w, fun r sh1 I1 L1 R1 hp => ?_⟩
  obtain ⟨e0, rfl, rfl, rfl, rfl⟩ := hp
  refine ⟨rfl, _, e0, _, c_X8_count hR.2.2 h1.2.1.1 a.1 w, fun r2 sh2 I2 L2 R2 hp2 => ?_⟩
  obtain ⟨d0, rfl, rfl, rfl, rfl⟩ := hp2
  refine ⟨rfl, ?_, hJ0⟩
  rw [d0]
  show some (Value.int (cntA (aN A) (sumI (I2 86) 13) (I2 81 7) (cntP (I2 86) 13) w)) = _
  have eF : I2 1 6 = I2 81 7 := Int32.toInt_inj.mp (h1.1.2.2.2.2.1.trans h1.2.1.2.2.2.2.1.symm)
  rw [sumI_cg 13 (J_sum h1), cntP_congr 13 (J_sum h1), eF]
theorem j_closes (hJ : JJ sh I L R) : JMi sh I L R M_X7_closes M_X8_closes [] := by
  have hJ0 := hJ
  obtain ⟨A, lo, hi, T, a, hR, h1, h2, h3, h4, h5, h6, h7⟩ := hJ
  refine ⟨_, c_X7_closes hR.1.1 h1.1.1 a.1, fun r sh1 I1 L1 R1 hp => ?_⟩
  obtain ⟨e0, rfl, rfl, rfl, rfl⟩ := hp
  refine ⟨rfl, _, e0, _, c_X8_closes hR.2.2 h1.2.1.1 a.1, fun r2 sh2 I2 L2 R2 hp2 => ?_⟩
  obtain ⟨d0, rfl, rfl, rfl, rfl⟩ := hp2
  refine ⟨rfl, ?_, hJ0⟩
  rw [d0]
  have hm := J_miss h1
  show some (Value.int (closesS (aN A) (missI (sumI (I2 86) 13) (I2 85) (aN A)) (missM (momI (I2 86) 13) (I2 82) (I2 85) (aN A)) (I2 82))) = some (Value.int (closesS (aN A) (missI (sumI (I2 6) 13) (I2 5) (aN A)) (missM (momI (I2 6) 13) (I2 2) (I2 5) (aN A)) (I2 2)))
  rw [hm.1, hm.2]
  have hf : ∀ n, n ≤ aN A → ∀ d e, fstB (fun b => wrongB d e (I2 82 b)) n = fstB (fun b => wrongB d e (I2 2 b)) n := by
    intro n
    induction n with
    | zero => intros; rfl
    | succ n ih =>
      intro hn d e
      unfold fstB
      rw [ih (by omega) d e, J_pl h1 n (by omega)]
  unfold closesS
  rw [hf (aN A) (Nat.le_refl _)]
theorem j_mended (hJ : JJ sh I L R) (b : Int32) : JMi sh I L R M_X7_mended M_X8_mended [.int b] := by
  have hJ0 := hJ
  obtain ⟨A, lo, hi, T, a, hR, h1, h2, h3, h4, h5, h6, h7⟩ := hJ
  have hm := J_miss h1
  refine ⟨_, c_X7_mended hR.1.1 h1.1.1 a.1 b, fun r sh1 I1 L1 R1 hp => ?_⟩
  rcases hp with ⟨c, hp⟩ | ⟨c, e0, rfl, rfl, rfl, rfl⟩
  · have hb := px_ix_lt (isBn_ix (n := aN A) (N := aN A) c (Nat.le_refl _))
    have e2 := J_pl h1 _ hb
    have e3 := (h1.2.2 _ hb).2.1
    rcases hp with ⟨c1, e0, rfl, rfl, rfl, rfl⟩ | ⟨c1, e0, rfl, rfl, rfl, rfl⟩
    · refine ⟨rfl, _, e0, _, c_X8_mended hR.2.2 h1.2.1.1 a.1 b, fun r2 sh2 I2 L2 R2 hp2 => ?_⟩
      rcases hp2 with ⟨c2, hp2⟩ | ⟨c2, _⟩
      · rcases hp2 with ⟨c3, d0, rfl, rfl, rfl, rfl⟩ | ⟨c3, _⟩
        · refine ⟨rfl, ?_, hJ0⟩
          rw [d0]
          show some (Value.int (I2 85 b.toNatClampNeg + missI (sumI (I2 86) 13) (I2 85) (aN A))) = _
          rw [hm.1, e3]
        · rw [hm.1, hm.2, e2] at c1
          exact absurd (c1.symm.trans c3) (by decide)
      · rw [c] at c2; cases c2
    · refine ⟨rfl, _, e0, _, c_X8_mended hR.2.2 h1.2.1.1 a.1 b, fun r2 sh2 I2 L2 R2 hp2 => ?_⟩
      rcases hp2 with ⟨c2, hp2⟩ | ⟨c2, _⟩
      · rcases hp2 with ⟨c3, _⟩ | ⟨c3, d0, rfl, rfl, rfl, rfl⟩
        · rw [hm.1, hm.2, e2] at c1
          exact absurd (c1.symm.trans c3) (by decide)
        · exact ⟨rfl, d0, hJ0⟩
      · rw [c] at c2; cases c2
  · refine ⟨rfl, _, e0, _, c_X8_mended hR.2.2 h1.2.1.1 a.1 b, fun r2 sh2 I2 L2 R2 hp2 => ?_⟩
    rcases hp2 with ⟨c2, _⟩ | ⟨c2, d0, rfl, rfl, rfl, rfl⟩
    · rw [c] at c2; cases c2
    · exact ⟨rfl, d0, hJ0⟩
end J1
