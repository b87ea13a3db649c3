def pusP (sh : Sh) (I : IM) (L : LM) (R : RM) (m D : Nat) (q : Rat) : PPost := fun ret sh' I' L' R' => ret = none ∧ sh' = sh ∧ R' = R ∧ I' = I ∧ frF m L L' ∧ PF L' m D q
theorem RI_m1 : RI (-1) (-1) := ⟨-1, rfl, rfl⟩
theorem pu_pos {pl : Nat → Nat} {n k : Nat} (hP : isP pl n) : 0 < 27720 * dtN pl n * spP pl n k := Nat.mul_pos (Nat.mul_pos (by decide) (dt_ok hP).2.1) (sp_le12 hP k).1
theorem pb_s {w : Nat → Rat} {a b p : Nat} {sm W d : Int64} (h : RI sm (sQ (pbF w a b) p)) (hW : RI W (w p)) (hd : RI d ((b : Rat) - p)) (c : a < p) : RI (sm + W * d) (sQ (pbF w a b) (p + 1)) := by
  refine RI_eq (RI_add h (RI_mul hW hd)) ?_
  show _ = sQ (pbF w a b) p + pbF w a b p
  unfold pbF
  rw [if_pos c]
theorem pf_s {w : Nat → Rat} {a b p : Nat} {sm W d : Int64} (h : RI sm (sQ (pfF w a b) p)) (hW : RI W (-w p)) (hd : RI d ((p : Rat) - a)) (c : a < p) : RI (sm + W * d) (sQ (pfF w a b) (p + 1)) := by
  refine RI_eq (RI_add h (RI_mul hW hd)) ?_
  show _ = sQ (pfF w a b) p + pfF w a b p
  unfold pfF
  rw [if_pos c]
theorem pb_0 {w : Nat → Rat} {a b : Nat} : RI 0 (sQ (pbF w a b) (a + 1)) ∧ RI 0 (sQ (pfF w a b) (a + 1)) := by
  refine ⟨RI_eq RI_0 (sQ_zero (fun i hi => ?_)).symm, RI_eq RI_0 (sQ_zero (fun i hi => ?_)).symm⟩
  · exact if_neg (by omega)
  · exact if_neg (by omega)
theorem neg_RI {x : Int32} {q : Rat} (h : (x.toInt : Rat) = q) (h0 : 0 ≤ q) : RI (-x).toInt64 (-q) := by
  have := RI_32 (-x)
  have h1 : 0 ≤ x.toInt := Rat.intCast_le_intCast.mp (show ((0 : Int) : Rat) ≤ _ by rw [h]; exact h0)
  have hb := Int32.toInt_lt x
  rw [Int32.toInt_neg, Int.bmod_eq_of_le (by omega) (by omega), Rat.intCast_neg, h] at this
  exact this
theorem pbf_in {w : Nat → Rat} {pl : Nat → Nat} {n k : Nat} (hP : isP pl n) (hk : k < n + 1) (hw : ∀ p, p < 13 → 0 ≤ w p ∧ w p ≤ 50) : inQ (sQ (pbF w (pl k) (pl (k + 1))) (pl (k + 1))) 7800 ∧ inQ (sQ (pfF w (pl k) (pl (k + 1))) (pl (k + 1))) 7800 := by
  have h1 := isP_le hP (show k < n + 2 by omega)
  have h2 := isP_le hP (show k + 1 < n + 2 by omega)
  exact ⟨inQ_le (sQ_in (by omega) (by grind) (fun p hp => (pb_in hw h2 (by omega) h1).1)) (by grind), inQ_le (sQ_in (by omega) (by grind) (fun p hp => (pb_in hw h2 (by omega) h1).2)) (by grind)⟩
theorem add1_in {q t : Rat} (hq : inQ q 1000000) (ht : inQ t 66600) : inQ (q + t) 60000000 := inQ_le (inQ_add hq ht) (by grind)
theorem add2_in {q t u : Rat} (hq : inQ q 1000000) (ht : inQ t 66600) (hu : inQ u 7800) : inQ (q + t + u) 60000000 := inQ_le (inQ_add (inQ_add hq ht) hu) (by grind)
theorem sg_in {σ t c : Rat} (hσ : σ = 1 ∨ σ = -1) (h : inQ t c) : inQ (σ * t) c := by
  rcases hσ with g | g
  · rw [g, Rat.one_mul]; exact h
  · rw [g]
    have : (-1 : Rat) * t = -t := by grind
    rw [this]
    exact inQ_neg h
