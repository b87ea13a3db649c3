/-! what holds() answers; orders of sets -/
theorem allB_all {g : Nat → Bool} : ∀ n, (∀ k, k < n → g k = true) → allB g n = true
  | 0, _ => rfl
  | n + 1, h => by
    simp only [allB, allB_all n (fun k hk => h k (by omega)), h n (by omega), Bool.and_self]
theorem neg1_lt : ¬ (0 : Int32) ≤ -1 := by decide
theorem nI_ge0 {k : Nat} (h : k < 2 ^ 31) : (0 : Int32) ≤ nI k := ge_of_nlt (nI_pos h)
theorem int_nn {z : Int} {q : Rat} (h : (z : Rat) = q) : 0 ≤ z ↔ 0 ≤ q := by
  rw [← h]
  exact (Rat.intCast_le_intCast (a := 0) (b := z)).symm
theorem mul_nn {d q : Rat} (hd : 0 < d) : 0 ≤ d * q ↔ 0 ≤ q := by
  constructor
  · intro h
    refine Rat.le_of_mul_le_mul_left (c := d) ?_ hd
    grind
  · intro h
    exact Rat.mul_nonneg (by grind) h
section HO
variable {I : IM} {L : LM} {r n : Nat} {s : Nat → Bool} {q : Nat → Nat} {hh w : Nat → Rat} {F H : Rat}
theorem ps_ok (ok : okS q hh w F H n) (hS : RestS I L r n s q hh w F) (h2 : 2 ≤ cntS s n) {i : Nat} (hi : i < cntS s n) : ((L (r + 4) i).toInt : Rat) = DQ (spR (lyN s q n) (cntS s n - 2)) (cntS s n - 2) * ldS s q hh w F n i := by
  have hO := hS.2.2.2 h2
  exact RI_get (hO.2.1 i (by omega)) (inQ_le (ex_push (okS_B ok h2) (by omega)) (by grind))
theorem bl_ok (ok : okS q hh w F H n) (hS : RestS I L r n s q hh w F) (h2 : 2 ≤ cntS s n) : ((L (r + 1) 4).toInt : Rat) = DQ (spR (lyN s q n) (cntS s n - 2)) (cntS s n - 2) := by
  have hO := hS.2.2.2 h2
  exact RI_get hO.2.2.1 (inQ_le (ex_D (okS_B ok h2)) (by grind))
theorem mrg_ok (ok : okS q hh w F H n) (hS : RestS I L r n s q hh w F) (h2 : 2 ≤ cntS s n) {b : Nat} (hb : b < n) (hs : s b = false) : ((mrgL I L r (cntS s n) b (q b) (lyN s q n 0) (lyN s q n 1)).toInt : Rat) = DQ (spR (lyN s q n) (cntS s n - 2)) (cntS s n - 2) * (tzS s q hh w F n (q b) - 6 * F * spS s q n * hh b) := by
  have hO := hS.2.2.2 h2
  have hB := okS_B (s := s) ok h2
  have hq := ok.2.1.1 b hb
  have e15 := hS.2.2.1 b hb
  rw [if_neg (by rw [hs]; decide)] at e15
  have hh14 := RI_32 (I (r + 14) b)
  rw [hS.1.2.2.1 b hb] at hh14
  have hx := hei_RI hB.1 hO hq
  have e : cntS s n - 2 + 2 = cntS s n := by omega
  rw [e] at hx
  have m : RI (mrgL I L r (cntS s n) b (q b) (lyN s q n 0) (lyN s q n 1)) (DQ (spR (lyN s q n) (cntS s n - 2)) (cntS s n - 2) * (tzS s q hh w F n (q b) - 6 * F * spS s q n * hh b)) := by
    unfold mrgL
    rw [e15, if_neg neg1_lt, hS.1.2.1 b hb]
    refine RI_eq (RI_sub hx.1 (RI_mul hh14 hx.2)) ?_
    grind
  refine RI_get m ?_
  have k1 := ex_hei1 hB hq
  have k2 := inQ_mul (ok.2.2.1 b hb) (ex_hb hB)
  have k3 := inQ_sub k1 k2
  have h9 := ok.2.2.2.2.2.2.2
  have k4 : DQ (spR (lyN s q n) (cntS s n - 2)) (cntS s n - 2) * (tzS s q hh w F n (q b) - 6 * F * spS s q n * hh b) = DQ (spR (lyN s q n) (cntS s n - 2)) (cntS s n - 2) * tzP (lyN s q n) (lyQ s hh n) w F (cntS s n - 2) (q b) - hh b * (6 * F * spR (lyN s q n) (cntS s n - 2) 0 * DQ (spR (lyN s q n) (cntS s n - 2)) (cntS s n - 2)) := by grind
  rw [k4]
  refine inQ_le k3 ?_
  grind
theorem hold_ok (ok : okS q hh w F H n) (hS : RestS I L r n s q hh w F) (h2 : 2 ≤ cntS s n) : (allB (fun k => decide (0 ≤ (L (r + 1 + 3) k).toInt)) (cntS s n) && allB (fun k => decide (0 ≤ I (r + 15) k) || decide (0 ≤ (mrgL I L r (cntS s n) k (q k) (lyN s q n 0) (lyN s q n 1)).toInt)) n) = true ↔ lieS s q hh w F n := by
  have hD := D_pos (okS_B (s := s) ok h2).1
  rw [Bool.and_eq_true]
  constructor
  · intro ⟨h1, h3⟩
    refine ⟨h2, fun i hi => ?_, fun b hb hs => ?_⟩
    · have a := of_decide_eq_true (allB_t h1 i hi)
      rw [int_nn (ps_ok ok hS h2 hi), mul_nn hD] at a
      exact a
    · have a := allB_t h3 b hb
      have e15 := hS.2.2.1 b hb
      rw [if_neg (by rw [hs]; decide)] at e15
      simp only [e15, decide_eq_false neg1_lt, Bool.false_or] at a
      have a := of_decide_eq_true a
      rw [int_nn (mrg_ok ok hS h2 hb hs), mul_nn hD] at a
      exact a
  · intro hl
    refine ⟨allB_all _ (fun k hk => decide_eq_true ?_), allB_all _ (fun b hb => ?_)⟩
    · have a := hl.2.1 k hk
      exact (int_nn (ps_ok ok hS h2 hk)).mpr ((mul_nn hD).mpr a)
    · have e15 := hS.2.2.1 b hb
      by_cases hs : s b = true
      · rw [if_pos hs] at e15
        have := cntS_le (s := s) b
        have h7 := ok.1
        rw [e15, decide_eq_true (nI_ge0 (by omega)), Bool.true_or]
      · have hs := Bool.not_eq_true _ ▸ hs
        have a := hl.2.2 b hb hs
        rw [decide_eq_true ((int_nn (mrg_ok ok hS h2 hb hs)).mpr ((mul_nn hD).mpr a)), Bool.or_true]
end HO
/-- the first set of those that lie, by sizes, then by codes from above -/
def firC (n : Nat) (P : Nat → Prop) (c : Nat) : Prop := c < 2 ^ n ∧ 2 ≤ popN c ∧ P c ∧ ∀ d, d < 2 ^ n → 2 ≤ popN d → P d → popN c < popN d ∨ (popN c = popN d ∧ d ≤ c)
def nonC (n : Nat) (P : Nat → Prop) : Prop := ∀ d, d < 2 ^ n → 2 ≤ popN d → ¬ P d
theorem pop_cnt : ∀ n, n ≤ 7 → ∀ c, c < 2 ^ n → cntS (selC (nI c) n) n = popN c := by
  have h : ∀ n, n < 8 → ∀ c, c < 2 ^ n → cntS (selC (nI c) n) n = popN c := by decide +kernel
  exact fun n hn => h n (by omega)
theorem pop_le : ∀ n, n ≤ 7 → ∀ c, c < 2 ^ n → popN c ≤ n := by
  have h : ∀ n, n < 8 → ∀ c, c < 2 ^ n → popN c ≤ n := by decide +kernel
  exact fun n hn => h n (by omega)
theorem shl_1 : ∀ n, n ≤ 7 → ((1 : Int32) <<< (nI n &&& 31)) - 1 = nI (2 ^ n - 1) := by
  have h : ∀ n, n < 8 → ((1 : Int32) <<< (nI n &&& 31)) - 1 = nI (2 ^ n - 1) := by decide +kernel
  exact fun n hn => h n (by omega)
theorem p7 {n : Nat} (h : n ≤ 7) : 2 ^ n ≤ 128 := by
  have h : ∀ n, n < 8 → 2 ^ n ≤ 128 := by decide +kernel
  exact h n (by omega)
/-- does the set of a class's code lie -/
def lieC (n : Nat) (q : Nat → Nat) (hh w : Nat → Rat) (F : Rat) (c : Nat) : Prop := lieS (selC (nI c) n) q hh w F n
/-- what settle leaves -/
def setP (sh : Sh) (I : IM) (L : LM) (R : RM) (r n : Nat) (q : Nat → Nat) (hh w : Nat → Rat) (F : Rat) : PPost := fun ret sh' I' L' R' => sh' = sh ∧ R' = R ∧ frI r I I' ∧ frL (r + 1) L L' ∧
  ((ret = some (.int 1) ∧ ∃ c, firC n (lieC n q hh w F) c ∧ RestS I' L' r n (selC (nI c) n) q hh w F) ∨ (ret = some (.int 0) ∧ nonC n (lieC n q hh w F)))
