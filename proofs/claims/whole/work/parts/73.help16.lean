/-! a jack on the rest -/
section JK
variable {I : IM} {L : LM} {A : LA} {st p : Nat} {v : Int}
theorem jk_pb1 (hm : CLm I A) (a : okA A) (hst : st < 4) (h : RestI I L 45 0 (jkQ A p) (jkH A st p v) (wgt A) (stf A)) : RestI (pbI I st 0 0 (aQ A) (jkM A p - 0)) L 45 (jkM A p) (jkQ A p) (jkH A st p v) (wgt A) (stf A) := by
  have hle : jkM A p ≤ aN A := cntN_le _
  have := rs_pb (s := st) (fr := 0) (n0 := 0) (Q := aQ A) (jkM A p) h (fun j hj => by
    unfold jkQ
    rw [Nat.zero_add, insG_lt hj]
    exact hm.2.1 j (by omega)) (fun j hj => by
    rw [Nat.zero_add]
    unfold jkH
    rw [insG_lt hj]
    exact cl_h hm a hst (by omega))
  rwa [Nat.zero_add] at this
theorem jk_pb2 (hm : CLm I A) (a : okA A) (hst : st < 4) (h : RestI I L 45 (jkM A p + 1) (jkQ A p) (jkH A st p v) (wgt A) (stf A)) : RestI (pbI I st (jkM A p) (jkM A p + 1) (aQ A) (aN A - jkM A p)) L 45 (aN A + 1) (jkQ A p) (jkH A st p v) (wgt A) (stf A) := by
  have hle : jkM A p ≤ aN A := cntN_le _
  have := rs_pb (s := st) (fr := jkM A p) (n0 := jkM A p + 1) (Q := aQ A) (aN A - jkM A p) h (fun j hj => by
    unfold jkQ
    rw [insG_gt (by omega), show jkM A p + 1 + j - 1 = jkM A p + j by omega]
    exact hm.2.1 _ (by omega)) (fun j hj => by
    unfold jkH
    rw [insG_gt (by omega), show jkM A p + 1 + j - 1 = jkM A p + j by omega]
    exact cl_h hm a hst (by omega))
  rwa [show jkM A p + 1 + (aN A - jkM A p) = aN A + 1 by omega] at this
theorem put_frK {n : Nat} {x y : Int32} {z : Int32} : frK I (u2 (u2 (u2 I (45 + 13) n x) (45 + 14) n y) 45 1 z) := fun a k c1 c2 => by rw [u2_n1 (by omega), u2_n1 (by omega), u2_n1 (by omega)]
end JK
def rsJ (A : LA) (st p : Nat) (v : Int) (P : Nat → Prop) (Q : Prop) : Prop := (∃ c, firC (aN A + 1) (lieC (aN A + 1) (jkQ A p) (jkH A st p v) (wgt A) (stf A)) c ∧ P c) ∨ (nonC (aN A + 1) (lieC (aN A + 1) (jkQ A p) (jkH A st p v) (wgt A) (stf A)) ∧ Q)
def qJk (A : LA) (st p : Nat) (v : Int) (c : Nat) : Rat := qLdG (selC (nI c) (aN A + 1)) (jkQ A p) (jkH A st p v) (wgt A) (stf A) (aN A + 1) (jkM A p)
