/-! the end of coupling -/
theorem so_ix {I : IM} {L : LM} {b N : Nat} {pl : Nat → Nat} {h w : Nat → Rat} {F : Rat} (hP : isP pl N) (hO : SolO I L b N pl h w F) {k : Nat} (hk : k < 2) : px_ix (I (b + 1) k) 13 (pl k) := by
  have := isP_le hP (show k < N + 2 by omega)
  exact k_ix (hO.1.1 k (by omega)) (by omega) (by decide)
theorem tk_fr {L : LM} {b c : Nat} : ∀ a k, a ≠ b → tkL L b c a k = L a k := fun a k h => be_fr a k h
theorem cpl_frR {L : LM} {x y z t : Int64} : ∀ a k, a ≠ 71 → a ≠ 72 → tkL (beL (beL L 71 x y) 72 z t) 71 72 a k = L a k := fun a k h1 h2 => by rw [tk_fr a k h1, be_fr a k h2, be_fr a k h1]
theorem cpl_fr {L : LM} {x y z t : Int64} : frBL L (tkL (beL (beL L 71 x y) 72 z t) 71 72) := fun a k h => cpl_frR a k (by omega) (by omega)
theorem be_row {L : LM} {b c : Nat} {x z : Int64} (h : c ≠ b) : beL L b x z c = L c := funext fun k => be_fr c k h
theorem hb_be {L : LM} {x y : Int64} : hbL (beL L 71 x y) 33 = hbL L 33 := by
  unfold hbL
  rw [be_row (c := 33) (by decide), be_row (c := 33 + 6) (by decide)]
theorem hei_be {I : IM} {L : LM} {x y : Int64} {n : Nat} {p : Int32} {p' p0 p1 : Nat} : heiL I (beL L 71 x y) 33 n p p' p0 p1 = heiL I L 33 n p p' p0 p1 := by
  unfold heiL flL slL bulL
  rw [be_row (c := 33) (by decide), be_row (c := 33 + 6) (by decide), be_row (c := 33 + 5) (by decide), be_row (c := 33 + 3) (by decide)]
theorem sle_be {I : IM} {L : LM} {x y : Int64} {n : Nat} {p : Int32} {p' p0 p1 : Nat} : sleL I (beL L 71 x y) 33 n p p' p0 p1 = sleL I L 33 n p p' p0 p1 := by
  unfold sleL flL slL
  rw [be_row (c := 33) (by decide), be_row (c := 33 + 6) (by decide), be_row (c := 33 + 5) (by decide), be_row (c := 33 + 3) (by decide), be_row (c := 33 + 4) (by decide)]
theorem cpl_both {I : IM} {L : LM} {A : LA} {st p : Nat} (a : okA A) (hst : st < 4) (hp : p < 13) (h2 : 2 ≤ cntS (gsB A 0 p) (aN A)) (k2 : 2 ≤ cntS (gsB A p 13) (aN A))
    (hO : SolO I L 21 (cntS (gsB A 0 p) (aN A) - 2) (lyN (gsB A 0 p) (aQ A) (aN A)) (lyQ (gsB A 0 p) (hgt A st) (aN A)) (wCut A 0 p) (stf A)) (kO : SolO I L 33 (cntS (gsB A p 13) (aN A) - 2) (lyN (gsB A p 13) (aQ A) (aN A)) (lyQ (gsB A p 13) (hgt A st) (aN A)) (wCut A p 13) (stf A)) (u w : Int32) {x1 x2 y2 : Int64}
    (e1 : x1 = eoL I L 21 (cntS (gsB A 0 p) (aN A)) (nI p) p (lyN (gsB A 0 p) (aQ A) (aN A) 0) (lyN (gsB A 0 p) (aQ A) (aN A) 1) u) (e2 : x2 = eoL I L 33 (cntS (gsB A p 13) (aN A)) (nI p) p (lyN (gsB A p 13) (aQ A) (aN A) 0) (lyN (gsB A p 13) (aQ A) (aN A) 1) u) (e3 : y2 = hbL L 33) :
    some (Value.long (if w = 0 then tkL (beL (beL L 71 x1 (hbL L 21)) 72 x2 y2) 71 72 71 0 else tkL (beL (beL L 71 x1 (hbL L 21)) 72 x2 y2) 71 72 71 1)) = some (.long (ansL (eoA A st 0 p p u - eoA A st p 13 p u) w)) := by
  have hB := okS_B (okA_C a hst 0 p) h2
  have hB' := okS_B (okA_C a hst p 13) k2
  have r1 := (eo_RF (L0 := L) (c := 71) hB hO hp u).1
  have r2 := (eo_RF (L0 := beL L 71 x1 (hbL L 21)) (c := 72) hB' kO hp u).1
  rw [show cntS (gsB A 0 p) (aN A) - 2 + 2 = cntS (gsB A 0 p) (aN A) by omega, ← e1] at r1
  rw [show cntS (gsB A p 13) (aN A) - 2 + 2 = cntS (gsB A p 13) (aN A) by omega, ← e2, ← e3] at r2
  have hl := (gs_pl (A := A) (fr := 0) (to := p) (k := cntS (gsB A 0 p) (aN A) - 2 + 1) (by omega)).2
  have hr := (gs_pl (A := A) (fr := p) (to := 13) (k := 0) (by omega)).1
  have := cpl_ok (f := aF A) rfl hB hO hB' kO hp u hl hr (Z := beL (beL L 71 x1 (hbL L 21)) 72 x2 y2) (by rw [be_fr 71 0 (by decide), be_fr 71 1 (by decide)]; exact r1) r2
  exact congrArg (fun z => some (Value.long z)) (RF_ans this w)
