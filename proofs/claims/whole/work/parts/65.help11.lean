/-! answers of the calls about loads -/
def frB (I I' : IM) : Prop := ∀ a k, (a < 21 ∨ 60 < a) → (a ≠ 0 ∨ (k ≠ 9 ∧ k ≠ 10)) → I' a k = I a k
def frBL (L L' : LM) : Prop := ∀ a k, (a < 21 ∨ (60 < a ∧ a < 71) ∨ 72 < a) → L' a k = L a k
theorem frB_0 {I : IM} : frB I I := fun _ _ _ _ => rfl
theorem frBL_0 {L : LM} : frBL L L := fun _ _ _ => rfl
theorem frB_t {I I' I'' : IM} (h1 : frB I I') (h2 : frB I' I'') : frB I I'' := fun a k c1 c2 => (h2 a k c1 c2).trans (h1 a k c1 c2)
theorem frBL_t {L L' L'' : LM} (h1 : frBL L L') (h2 : frBL L' L'') : frBL L L'' := fun a k c1 => (h2 a k c1).trans (h1 a k c1)
theorem frB_K {I I' : IM} (h : frK I I') : frB I I' := fun a k c1 c2 => h a k (by omega) c2
theorem frBL_K {L L' : LM} (h : frKL L L') : frBL L L' := fun a k c1 => h a k (by omega)
/-- the answer part what of a fraction -/
def ansL (q : Rat) (w : Int32) : Int64 := if w = 0 then Int64.ofInt q.num else Int64.ofInt (q.den : Int)
theorem RF_ans {x y : Int64} {q : Rat} (h : RF x y q) (w : Int32) : (if w = 0 then x else y) = ansL q w := by
  unfold ansL
  split
  · rw [← h.1, Int64.ofInt_toInt]
  · rw [← h.2, Int64.ofInt_toInt]
/-- what a bearing carries, the set s lying -/
def qLd (A : LA) (st : Nat) (s : Nat → Bool) (b : Nat) : Rat := if s b = true then ldS s (aQ A) (hgt A st) (wgt A) (stf A) (aN A) (cntS s b) else 0
/-- how THE SHAFT lies in a STATE -/
def rsA (A : LA) (st : Nat) (P : Nat → Prop) (Q : Prop) : Prop := (∃ c, firC (aN A) (lieC (aN A) (aQ A) (hgt A st) (wgt A) (stf A)) c ∧ P c) ∨ (nonC (aN A) (lieC (aN A) (aQ A) (hgt A st) (wgt A) (stf A)) ∧ Q)
def refL (x : Int32) : Option Value := some (.long (x.toInt64 - 1099511627776))
def obs (sh : Sh) (I : IM) (L : LM) (R : RM) (A : LA) (Ans : Option Value → Prop) : PPost := fun ret sh' I' L' R' => sh' = sh ∧ R' = R ∧ frB I I' ∧ frBL L L' ∧ CRest I' L' A ∧ Ans ret
def ifA (c : Bool) (P Q : Prop) : Prop := (c = true ∧ P) ∨ (c = false ∧ Q)
theorem ifA_t {c : Bool} {P Q : Prop} (h : c = true) (p : P) : ifA c P Q := Or.inl ⟨h, p⟩
theorem ifA_f {c : Bool} {P Q : Prop} (h : c = false) (p : Q) : ifA c P Q := Or.inr ⟨h, p⟩
abbrev setA (A : LA) (c : Nat) : Nat → Bool := selC (nI c) (aN A)
theorem CRest_of {I : IM} {L : LM} {A : LA} {s : Nat} (hs : s < 4) (h9 : I 0 9 = nI s) (h : CRs I L A s) : CRest I L A := Or.inr ⟨s, hs, h9, h⟩
theorem CRs_1 {I : IM} {L : LM} {A : LA} {s : Nat} (h : CRs I L A s) (h0 : I 0 10 = 0) : ∃ c, firC (aN A) (lieC (aN A) (aQ A) (hgt A s) (wgt A) (stf A)) c ∧ RestS I L 45 (aN A) (setA A c) (aQ A) (hgt A s) (wgt A) (stf A) := by
  rcases h with h | h
  · exact h.2
  · rw [h.1] at h0
    exact absurd h0 (by decide)
theorem CRs_0 {I : IM} {L : LM} {A : LA} {s : Nat} (h : CRs I L A s) (h0 : ¬ I 0 10 = 0) : nonC (aN A) (lieC (aN A) (aQ A) (hgt A s) (wgt A) (stf A)) := by
  rcases h with h | h
  · exact absurd h.1 h0
  · exact h.2
/-- a walk behind comesToRest: how it answered -/
theorem ctr_b {ret : Option Value} {I : IM} {L : LM} {A : LA} {s : Nat} (hc : CRs I L A s) (h : (ret = some (.int 1) ∧ I 0 10 = 0) ∨ (ret = some (.int 0) ∧ ¬ I 0 10 = 0)) : ∃ bb : Bool, ret = some (.int (bI bb)) ∧ (bb = true → ∃ c, firC (aN A) (lieC (aN A) (aQ A) (hgt A s) (wgt A) (stf A)) c ∧ RestS I L 45 (aN A) (setA A c) (aQ A) (hgt A s) (wgt A) (stf A)) ∧ (bb = false → nonC (aN A) (lieC (aN A) (aQ A) (hgt A s) (wgt A) (stf A))) := by
  obtain ⟨bb, h1, h2, h3⟩ := or_b h
  exact ⟨bb, h1, fun e => CRs_1 hc (h2 e), fun e => CRs_0 hc (h3 e)⟩
/-- what pushOf answers -/
def pshV (I : IM) (L : LM) (r k : Nat) : Int64 := if 0 ≤ I (r + 15) k then L (r + 1 + 3) (I (r + 15) k).toNatClampNeg else 0
section PV
variable {I : IM} {L : LM} {A : LA} {st : Nat} {s : Nat → Bool}
theorem fir_2 {n : Nat} {P : Nat → Prop} {c : Nat} (h7 : n ≤ 7) (h : firC n P c) : 2 ≤ cntS (selC (nI c) n) n := by
  rw [pop_cnt n h7 c h.1]
  exact h.2.1
abbrev DA (A : LA) (s : Nat → Bool) : Rat := DQ (spR (lyN s (aQ A) (aN A)) (cntS s (aN A) - 2)) (cntS s (aN A) - 2)
theorem rs_D (a : okA A) (hst : st < 4) (hS : RestS I L 45 (aN A) s (aQ A) (hgt A st) (wgt A) (stf A)) (h2 : 2 ≤ cntS s (aN A)) : ((L 46 4).toInt : Rat) = DA A s ∧ 0 < (L 46 4).toInt ∧ (L 46 4).toInt < 281474976710656 := by
  have e := bl_ok (okA_S a hst) hS h2
  have hp := D_pos (okS_B (s := s) (okA_S a hst) h2).1
  have hi := ex_D (okS_B (s := s) (okA_S a hst) h2)
  have e : ((L 46 4).toInt : Rat) = DA A s := e
  refine ⟨e, ?_, ?_⟩
  · have : ((0 : Int) : Rat) < ((L 46 4).toInt : Rat) := by rw [e]; exact hp
    exact Rat.intCast_lt_intCast.mp this
  · have : ((L 46 4).toInt : Rat) < ((281474976710656 : Int) : Rat) := by
      rw [e]
      have h := hi.2
      have z : ((281474976710656 : Int) : Rat) = 281474976710656 := rfl
      rw [z]
      grind
    exact Rat.intCast_lt_intCast.mp this
theorem rs_psh (a : okA A) (hst : st < 4) (hS : RestS I L 45 (aN A) s (aQ A) (hgt A st) (wgt A) (stf A)) (h2 : 2 ≤ cntS s (aN A)) {b : Nat} (hb : b < aN A) : ((pshV I L 45 b).toInt : Rat) = qLd A st s b * ((L 46 4).toInt : Rat) ∧ -9223372036854775807 ≤ (pshV I L 45 b).toInt ∧ inQ ((pshV I L 45 b).toInt : Rat) 30000000000000 := by
  have hD := rs_D a hst hS h2
  have e15 := hS.2.2.1 b hb
  have e15 : I 60 b = if s b = true then nI (cntS s b) else -1 := e15
  unfold pshV qLd
  show (((if 0 ≤ I 60 b then L 49 (I 60 b).toNatClampNeg else 0).toInt : Int) : Rat) = _ ∧ _
  by_cases c : s b = true
  · rw [if_pos c] at e15
    have hlt := cntS_mono c (aN A) hb
    have h7 := (okA_S a hst).1
    have hcl := cntS_le (s := s) (aN A)
    rw [if_pos c]
    show (((if 0 ≤ I 60 b then L 49 (I 60 b).toNatClampNeg else 0).toInt : Int) : Rat) = _ ∧ _ ≤ (if 0 ≤ I 60 b then L 49 (I 60 b).toNatClampNeg else 0).toInt ∧ inQ (((if 0 ≤ I 60 b then L 49 (I 60 b).toNatClampNeg else 0).toInt : Int) : Rat) _
    rw [e15, if_pos (nI_ge0 (by omega)), nI_clamp (by omega)]
    have e := ps_ok (okA_S a hst) hS h2 hlt
    have e : ((L 49 (cntS s b)).toInt : Rat) = _ := e
    have hi := ex_push (okS_B (s := s) (okA_S a hst) h2) (i := cntS s b) (by omega)
    have hi2 : inQ ((L 49 (cntS s b)).toInt : Rat) 30000000000000 := by rw [e]; exact hi
    refine ⟨?_, ?_, hi2⟩
    · rw [e, hD.1]
      exact Rat.mul_comm _ _
    · have := hi2.1
      have this : ((-30000000000000 : Int) : Rat) ≤ ((L 49 (cntS s b)).toInt : Rat) := this
      have := Rat.intCast_le_intCast.mp this
      omega
  · rw [if_neg c] at e15
    rw [if_neg c]
    show (((if 0 ≤ I 60 b then L 49 (I 60 b).toNatClampNeg else 0).toInt : Int) : Rat) = _ ∧ _ ≤ (if 0 ≤ I 60 b then L 49 (I 60 b).toNatClampNeg else 0).toInt ∧ inQ (((if 0 ≤ I 60 b then L 49 (I 60 b).toNatClampNeg else 0).toInt : Int) : Rat) _
    rw [e15, if_neg neg1_lt]
    refine ⟨?_, by decide, ?_⟩
    · rw [zL]
      have : ((0 : Int) : Rat) = 0 := rfl
      rw [this]
      grind
    · rw [zL]
      exact inQ_0 (by grind)
/-- become, part: the answer -/
theorem ans_load (a : okA A) (hst : st < 4) (hS : RestS I L 45 (aN A) s (aQ A) (hgt A st) (wgt A) (stf A)) (h2 : 2 ≤ cntS s (aN A)) {b : Nat} (hb : b < aN A) (w : Int32) : (if w = 0 then beL L 71 (pshV I L 45 b) (L 46 4) 71 0 else beL L 71 (pshV I L 45 b) (L 46 4) 71 1) = ansL (qLd A st s b) w := by
  have hD := rs_D a hst hS h2
  have hp := rs_psh a hst hS h2 hb
  exact RF_ans (be_ok hp.2.1 hD.2.1 hD.2.2 hp.1) w
/-- the height at a place -/
def yS (A : LA) (st : Nat) (s : Nat → Bool) (p : Nat) : Rat := tzS s (aQ A) (hgt A st) (wgt A) (stf A) (aN A) p / (6 * stf A * spS s (aQ A) (aN A))
theorem int_gt {z : Int} {c : Rat} (m : Int) (h : (z : Rat) = c) (hm : c < (m : Rat)) : z < m := by
  rw [← h] at hm
  exact Rat.intCast_lt_intCast.mp hm
theorem int_lt {z : Int} {c : Rat} (m : Int) (h : (z : Rat) = c) (hm : (m : Rat) < c) : m < z := by
  rw [← h] at hm
  exact Rat.intCast_lt_intCast.mp hm
theorem int_le {z : Int} {c : Rat} (m : Int) (h : (z : Rat) = c) (hm : (m : Rat) ≤ c) : m ≤ z := by
  rw [← h] at hm
  exact Rat.intCast_le_intCast.mp hm
/-- height and heightBelow of a beam that is solved -/
theorem hei_get {b N : Nat} {pl : Nat → Nat} {h w : Nat → Rat} {F H : Rat} (hB : okB pl h w F H N) (hO : SolO I L b N pl h w F) {p : Nat} (hp : p < 13) : ((heiL I L b (N + 2) (nI p) p (pl 0) (pl 1)).toInt : Rat) = (tzP pl h w F N p / (6 * F * spR pl N 0)) * ((hbL L b).toInt : Rat) ∧ inQ ((heiL I L b (N + 2) (nI p) p (pl 0) (pl 1)).toInt : Rat) 15000000000000000 ∧ 0 < (hbL L b).toInt ∧ (hbL L b).toInt ≤ 57649397760 ∧ ((hbL L b).toInt : Rat) = 6 * F * spR pl N 0 * DQ (spR pl N) N := by
  have hx := hei_RI hB.1 hO hp
  have e1 := RI_get hx.1 (inQ_le (ex_hei1 hB hp) (by grind))
  have e2 := RI_get hx.2 (inQ_le (ex_hb hB) (by grind))
  have hp1 := hb_pos hB
  have hs := sp_one hB.1 0
  have hF := hB.2.2.2.1
  refine ⟨?_, by rw [e1]; exact ex_hei1 hB hp, int_lt 0 e2 hp1, ?_, e2⟩
  · rw [e1, e2]
    have n1 : spR pl N 0 ≠ 0 := by grind
    have n2 : F ≠ 0 := by grind
    grind
  · have h := (ex_hb hB).2
    rw [← e2] at h
    have h : ((hbL L b).toInt : Rat) ≤ ((57649397760 : Int) : Rat) := h
    exact Rat.intCast_le_intCast.mp h
theorem in_ge {z : Int} {c : Int} (h : inQ (z : Rat) (c : Rat)) : -c ≤ z := by
  have h := h.1
  rw [← Rat.intCast_neg] at h
  exact Rat.intCast_le_intCast.mp h
theorem ans_high (a : okA A) (hst : st < 4) (hS : RestS I L 45 (aN A) s (aQ A) (hgt A st) (wgt A) (stf A)) (h2 : 2 ≤ cntS s (aN A)) {p : Nat} (hp : p < 13) (w : Int32) : (if w = 0 then beL L 71 (heiL I L 46 (cntS s (aN A)) (nI p) p (lyN s (aQ A) (aN A) 0) (lyN s (aQ A) (aN A) 1)) (hbL L 46) 71 0 else beL L 71 (heiL I L 46 (cntS s (aN A)) (nI p) p (lyN s (aQ A) (aN A) 0) (lyN s (aQ A) (aN A) 1)) (hbL L 46) 71 1) = ansL (yS A st s p) w := by
  have hB := okS_B (s := s) (okA_S a hst) h2
  have hx := hei_get hB (hS.2.2.2 h2) hp
  rw [show cntS s (aN A) - 2 + 2 = cntS s (aN A) by omega] at hx
  have g := in_ge (c := 15000000000000000) hx.2.1
  exact RF_ans (be_ok (by omega) hx.2.2.1 (by have h9 : (hbL L 46).toInt ≤ 57649397760 := hx.2.2.2.1; show (hbL L 46).toInt < _; omega) hx.1) w
end PV
