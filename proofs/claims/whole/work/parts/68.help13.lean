/-! bits, bounds, fits, runs -/
def bitF (g : Nat → Bool) : Nat → Int32
  | 0 => 0
  | k + 1 => if g k = true then bitF g k ||| (1 <<< (nI k &&& 31)) else bitF g k
theorem bitF_congr {f g : Nat → Bool} : ∀ n, (∀ k, k < n → f k = g k) → bitF f n = bitF g n
  | 0, _ => rfl
  | n + 1, h => by simp only [bitF, bitF_congr n (fun k hk => h k (by omega)), h n (by omega)]
theorem mul_z {q d : Rat} (hd : 0 < d) : q * d = 0 ↔ q = 0 := by
  constructor
  · intro h
    rcases Rat.mul_eq_zero.mp h with h | h
    · exact h
    · grind
  · intro h
    rw [h]
    grind
section BO
variable {I : IM} {L : LM} {A : LA} {st : Nat} {s : Nat → Bool}
theorem psh_z (a : okA A) (hst : st < 4) (hS : RestS I L 45 (aN A) s (aQ A) (hgt A st) (wgt A) (stf A)) (h2 : 2 ≤ cntS s (aN A)) {b : Nat} (hb : b < aN A) : (pshV I L 45 b).toInt = 0 ↔ qLd A st s b = 0 := by
  have hp := (rs_psh a hst hS h2 hb).1
  have hD := rs_D a hst hS h2
  have hd : (0 : Rat) < ((L 46 4).toInt : Rat) := Rat.intCast_lt_intCast.mpr hD.2.1
  rw [← mul_z hd, ← hp]
  exact Rat.intCast_eq_zero_iff.symm
/-- all LOADS within BOUNDS -/
def wbS (A : LA) (st : Nat) (s : Nat → Bool) (lo hi : Int) : Prop := ∀ b, b < aN A → (lo : Rat) ≤ qLd A st s b ∧ qLd A st s b ≤ (hi : Rat)
def wbB (I : IM) (L : LM) : Nat → Bool := allB (fun b => decide ((((I 0 11).toInt64) * L 46 4).toInt ≤ (pshV I L 45 b).toInt) && decide ((pshV I L 45 b).toInt ≤ (((I 0 12).toInt64) * L 46 4).toInt))
theorem lo_mul (a : okA A) (hst : st < 4) (hS : RestS I L 45 (aN A) s (aQ A) (hgt A st) (wgt A) (stf A)) (h2 : 2 ≤ cntS s (aN A)) {x : Int32} (h0 : 0 ≤ x.toInt) (h6 : x.toInt ≤ 600) : ((x.toInt64 * L 46 4).toInt : Rat) = (x.toInt : Rat) * ((L 46 4).toInt : Rat) := by
  have hD := rs_D a hst hS h2
  refine RI_get (RI_mul (RI_32 x) (RI_64 (L 46 4))) ?_
  have h1 : inQ (x.toInt : Rat) ((600 : Int) : Rat) := int_inQ (by omega) h6
  have h2 : inQ ((L 46 4).toInt : Rat) ((281474976710656 : Int) : Rat) := int_inQ (by omega) (by omega)
  refine inQ_le (inQ_mul h1 h2) ?_
  have e1 : ((600 : Int) : Rat) = 600 := rfl
  have e2 : ((281474976710656 : Int) : Rat) = 281474976710656 := rfl
  rw [e1, e2]
  grind
theorem mul_le_c {p q d : Rat} (hd : 0 < d) : p * d ≤ q * d ↔ p ≤ q := by
  constructor
  · intro h
    exact Rat.le_of_mul_le_mul_right h hd
  · intro h
    exact Rat.mul_le_mul_of_nonneg_right h (by grind)
theorem wb_ok (a : okA A) (hst : st < 4) (hS : RestS I L 45 (aN A) s (aQ A) (hgt A st) (wgt A) (stf A)) (h2 : 2 ≤ cntS s (aN A)) (hl : 0 ≤ (I 0 11).toInt ∧ (I 0 11).toInt ≤ 600) (hh : 0 ≤ (I 0 12).toInt ∧ (I 0 12).toInt ≤ 600) : wbB I L (aN A) = true ↔ wbS A st s (I 0 11).toInt (I 0 12).toInt := by
  have hD := rs_D a hst hS h2
  have hd : (0 : Rat) < ((L 46 4).toInt : Rat) := Rat.intCast_lt_intCast.mpr hD.2.1
  have e1 := lo_mul a hst hS h2 hl.1 hl.2
  have e2 := lo_mul a hst hS h2 hh.1 hh.2
  have k : ∀ b, b < aN A → ((decide ((((I 0 11).toInt64) * L 46 4).toInt ≤ (pshV I L 45 b).toInt) && decide ((pshV I L 45 b).toInt ≤ (((I 0 12).toInt64) * L 46 4).toInt)) = true ↔ ((I 0 11).toInt : Rat) ≤ qLd A st s b ∧ qLd A st s b ≤ ((I 0 12).toInt : Rat)) := fun b hb => by
    have hp := (rs_psh a hst hS h2 hb).1
    rw [Bool.and_eq_true, decide_eq_true_eq, decide_eq_true_eq, ← Rat.intCast_le_intCast, ← Rat.intCast_le_intCast, e1, e2, hp, mul_le_c hd, mul_le_c hd]
  constructor
  · intro h b hb
    exact (k b hb).mp (allB_t h b hb)
  · intro h
    exact allB_all _ (fun b hb => (k b hb).mpr (h b hb))
/-- THE SHAFT fits in some STATES -/
def fitP (A : LA) (lo hi : Int) (g : Nat → Bool) (k : Nat) : Prop := ∀ s, s < k → g s = true → ∃ c, firC (aN A) (lieC (aN A) (aQ A) (hgt A s) (wgt A) (stf A)) c ∧ wbS A s (setA A c) lo hi
theorem fir_u {n : Nat} {P : Nat → Prop} {c d : Nat} (h1 : firC n P c) (h2 : firC n P d) : c = d := by
  have a := h1.2.2.2 d h2.1 h2.2.1 h2.2.2.1
  have b := h2.2.2.2 c h1.1 h1.2.1 h1.2.2.1
  omega
theorem fir_non {n : Nat} {P : Nat → Prop} {c : Nat} (h1 : firC n P c) (h2 : nonC n P) : False := h2 c h1.1 h1.2.1 h1.2.2.1
/-- WEAR and OFFSETS behind a run -/
def runI (I : IM) (hr : Nat → Int32) (k : Nat) : IM := fun a j => if a = 4 ∧ j < k then wearW (I 4 j + hr j) else if a = 3 ∧ j < k then wearO (I 3 j) (I 4 j + hr j) else I a j
theorem runI_0 {hr : Nat → Int32} : I = runI I hr 0 := by
  funext a j
  unfold runI
  rw [if_neg (by omega), if_neg (by omega)]
theorem runI_o {hr : Nat → Int32} {k a j : Nat} (h1 : a ≠ 4) (h2 : a ≠ 3) : runI I hr k a j = I a j := by
  unfold runI
  rw [if_neg (by omega), if_neg (by omega)]
theorem runI_k {hr : Nat → Int32} {k a : Nat} : runI I hr k a k = I a k := by
  unfold runI
  rw [if_neg (by omega), if_neg (by omega)]
theorem runI_s {hr : Nat → Int32} {k : Nat} {m : Int32} (hm : m = hr k) : u2 (u2 (runI I hr k) 4 k (wearW (I 4 k + m))) 3 k (wearO (I 3 k) (I 4 k + m)) = runI I hr (k + 1) := by
  subst hm
  funext a j
  unfold u2 runI
  by_cases c3 : a = 3
  · subst c3
    by_cases cj : j = k
    · subst cj
      simp
    · have e : (j < k + 1) = (j < k) := propext ⟨fun _ => by omega, fun _ => by omega⟩
      simp [cj, e]
  · by_cases c4 : a = 4
    · subst c4
      by_cases cj : j = k
      · subst cj
        simp
      · have e : (j < k + 1) = (j < k) := propext ⟨fun _ => by omega, fun _ => by omega⟩
        simp [cj, e]
    · simp [c3, c4]
/-- a load, cut -/
def cutQ (q : Rat) : Int := q.num.tdiv q.den
theorem cut_rat {a d : Int} {q : Rat} (hd : 0 < d) (h : (a : Rat) = q * (d : Rat)) : a.tdiv d = cutQ q := by
  obtain ⟨e1, e2⟩ := rat_of hd h
  obtain ⟨g0, g1, g2⟩ := gcd_dv (a := a) hd
  generalize (Int.gcd a d : Int) = g at *
  obtain ⟨u, hu⟩ := g1
  obtain ⟨v, hv⟩ := g2
  have n1 : q.num = u := by rw [e1, hu]; exact Int.mul_ediv_cancel_left u (by omega)
  have n2 : (q.den : Int) = v := by rw [e2, hv]; exact Int.mul_ediv_cancel_left v (by omega)
  unfold cutQ
  rw [n1, n2, hu, hv, Int.mul_tdiv_mul_of_pos _ _ g0]
def hrA (A : LA) (s : Nat → Bool) (v : Int32) (b : Nat) : Int32 := Int32.ofInt (cutQ (qLd A 0 s b)) * v
theorem hr_ok (a : okA A) (hS : RestS I L 45 (aN A) s (aQ A) (hgt A 0) (wgt A) (stf A)) (h2 : 2 ≤ cntS s (aN A)) {b : Nat} (hb : b < aN A) (v : Int32) : (cutL (pshV I L 45 b) (L 46 4)).toInt32 * v = hrA A s v b := by
  have hp := rs_psh a (by decide) hS h2 hb
  have hD := rs_D a (by decide) hS h2
  have hne : ¬ L 46 4 = 0 := fun e => by
    rw [e, zL] at hD
    omega
  unfold hrA cutL
  rw [if_neg hne]
  congr 1
  apply Int32.toInt_inj.mp
  rw [Int64.toInt_toInt32, Int32.toInt_ofInt, Int64.toInt_div_of_ne_right _ _ (fun e => by
    rw [e] at hD
    exact absurd hD.2.1 (by decide)), cut_rat hD.2.1 hp.1]
end BO
