/-! a set's bounds, moves made -/
section WB
variable {I : IM} {L : LM} {A : LA} {mv : Nat → Int} {lo hi : Int} {g : Nat → Bool} {st j b : Nat}
theorem wb_D (a : okA A) (hm : okM A mv) (h4 : aN A ≤ 4) (hc : PLc I L A lo hi g) (hj : j < ordK (aN A)) : ((L 65 j).toInt : Rat) = DQ (spR (lyN (sN (aN A) j) (aQ A) (aN A)) (cntS (sN (aN A) j) (aN A) - 2)) (cntS (sN (aN A) j) (aN A) - 2) ∧ (0 : Rat) < ((L 65 j).toInt : Rat) := by
  have hB := okS_B (s := sN (aN A) j) (okA_S (okA_mv a hm) (show 0 < 4 by decide)) (sN_2 h4 hj)
  have e := RI_get (hc.2.1 j hj).2 (inQ_le (ex_D hB) (by grind))
  refine ⟨e, ?_⟩
  rw [e]
  exact D_pos hB.1
theorem wb_lo (a : okA A) (hm : okM A mv) (h4 : aN A ≤ 4) (hc : PLc I L A lo hi g) (hj : j < ordK (aN A)) {x : Int64} {z : Int} (hx : x.toInt = z) (h0 : 0 ≤ z) (h6 : z ≤ 600) : ((x * L 65 j).toInt : Rat) = (z : Rat) * ((L 65 j).toInt : Rat) := by
  have hB := okS_B (s := sN (aN A) j) (okA_S (okA_mv a hm) (show 0 < 4 by decide)) (sN_2 h4 hj)
  have hD := wb_D a hm h4 hc hj
  have e := RI_mul (RI_64 x) (RI_64 (L 65 j))
  rw [hx] at e
  refine RI_get e ?_
  have h1 : inQ (z : Rat) ((600 : Int) : Rat) := int_inQ (by omega) h6
  have h2 := ex_D hB
  rw [← hD.1] at h2
  refine inQ_le (inQ_mul h1 h2) ?_
  have e1 : ((600 : Int) : Rat) = 600 := rfl
  rw [e1]
  grind
theorem wb_psh (hg : mgsL L A mv st j (aN A)) (hb : b < aN A) (hD : ((L 65 j).toInt : Rat) = DQ (spR (lyN (sN (aN A) j) (aQ A) (aN A)) (cntS (sN (aN A) j) (aN A) - 2)) (cntS (sN (aN A) j) (aN A) - 2)) : (sN (aN A) j b = true → ((L 68 b).toInt : Rat) = qLd (mvA A mv) st (sN (aN A) j) b * ((L 65 j).toInt : Rat)) ∧ (sN (aN A) j b = false → ((0 : Int64).toInt : Rat) = qLd (mvA A mv) st (sN (aN A) j) b * ((L 65 j).toInt : Rat)) := by
  constructor
  · intro hs
    rw [hg b hb, hD]
    unfold mgQ qLd
    rw [if_pos hs, if_pos hs]
    exact Rat.mul_comm _ _
  · intro hs
    unfold qLd
    rw [if_neg (by rw [hs]; decide), zL]
    have : ((0 : Int) : Rat) = 0 := rfl
    rw [this]
    grind
end WB
/-- whether the first set that lies, moves made, is within BOUNDS -/
def fitO (A : LA) (mv : Nat → Int) (lo hi : Int) (st : Nat) : Prop := ∃ c, firC (aN A) (lieC (aN A) (aQ A) (hgt (mvA A mv) st) (wgt A) (stf A)) c ∧ wbS (mvA A mv) st (setA A c) lo hi
def finP (sh : Sh) (I : IM) (L : LM) (R : RM) (P : Prop) : PPost := fun ret sh' I' L' R' => sh' = sh ∧ R' = R ∧ I' = I ∧ fr68 L L' ∧ ∃ bb : Bool, ret = some (.int (bI bb)) ∧ (bb = true ↔ P)
theorem fitO_j {A : LA} {mv : Nat → Int} {lo hi : Int} {st j : Nat} (h4 : aN A ≤ 4) (hj : j < ordK (aN A)) (hl : lieS (sN (aN A) j) (aQ A) (hgt (mvA A mv) st) (wgt A) (stf A) (aN A)) (hno : ∀ i, i < j → ¬ lieS (sN (aN A) i) (aQ A) (hgt (mvA A mv) st) (wgt A) (stf A) (aN A)) : (wbS (mvA A mv) st (sN (aN A) j) lo hi ↔ fitO A mv lo hi st) := by
  have hf : firC (aN A) (lieC (aN A) (aQ A) (hgt (mvA A mv) st) (wgt A) (stf A)) (ordN (aN A) j) := ord_fir h4 hj hl hno
  constructor
  · intro h
    exact ⟨_, hf, h⟩
  · intro ⟨c, hc, h⟩
    have := fir_u hc hf
    subst this
    exact h
theorem fitO_no {A : LA} {mv : Nat → Int} {lo hi : Int} {st : Nat} (h4 : aN A ≤ 4) (hno : ∀ i, i < ordK (aN A) → ¬ lieS (sN (aN A) i) (aQ A) (hgt (mvA A mv) st) (wgt A) (stf A) (aN A)) : ¬ fitO A mv lo hi st := fun ⟨c, hc, _⟩ => fir_non hc (ord_non h4 hno)
