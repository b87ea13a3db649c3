/-! the model's mechanics: supports, sides, rights -/
def SolM (I : IM) (m N : Nat) (pl : Nat → Nat) (h w : Nat → Rat) (F : Rat) : Prop := I m 19 = nI (N + 2) ∧ (∀ k, k < N + 2 → I (m + 11) k = nI (pl k)) ∧ (∀ k, k < N + 2 → ((I (m + 12) k).toInt : Rat) = h k ∧ -1000 ≤ (I (m + 12) k).toInt ∧ (I (m + 12) k).toInt ≤ 1000) ∧ (∀ p, p < 13 → ((I (m + 13) p).toInt : Rat) = w p) ∧ ((I m 7).toInt : Rat) = F
section SM
variable {I : IM} {m N : Nat} {pl : Nat → Nat} {h w : Nat → Rat} {F : Rat}
theorem sm_in (hP : isP pl N) (hS : SolM I m N pl h w F) {i : Nat} (hi : i < N + 1) : (I (m + 11) (i + 1) - I (m + 11) i).toInt64.toInt = (spP pl N i : Int) ∧ 1 ≤ spP pl N i ∧ spP pl N i ≤ 12 := by
  have h1 := isP_le hP (show i < N + 2 by omega)
  have h2 := isP_le hP (show i + 1 < N + 2 by omega)
  have h3 := hP.2.2 i (by omega)
  have e : spP pl N i = pl (i + 1) - pl i := if_pos (by omega)
  rw [hS.2.1 i (by omega), hS.2.1 (i + 1) (by omega), e, Int32.toInt_toInt64, pk_sub_toInt (by omega) (by omega)]
  omega
theorem sm_sd (hP : isP pl N) (hS : SolM I m N pl h w F) {i : Nat} (hi : i < N + 1) : RI (I (m + 11) (i + 1) - I (m + 11) i).toInt64 (spR pl N i) := by
  have := RI_64 (I (m + 11) (i + 1) - I (m + 11) i).toInt64
  rw [(sm_in hP hS hi).1, Rat.intCast_natCast] at this
  exact this
theorem sm_dg (hP : isP pl N) (hS : SolM I m N pl h w F) {i : Nat} (h0 : 0 < i) (hi : i < N + 1) : RI (2 * (I (m + 11) (i + 1) - I (m + 11) (i - 1)).toInt64) (2 * (spR pl N (i - 1) + spR pl N i)) := by
  have h1 := isP_le hP (show i - 1 < N + 2 by omega)
  have h2 := isP_le hP (show i + 1 < N + 2 by omega)
  rw [hS.2.1 (i - 1) (by omega), hS.2.1 (i + 1) (by omega)]
  refine RI_mul RI_2 (RI_eq (RI_dif (by omega) (by omega)).1 ?_)
  have e1 := (isP_X hP).2 i (by omega)
  have e2 := (isP_X hP).2 (i - 1) (by omega)
  rw [show i - 1 + 1 = i by omega] at e2
  simp only at e1 e2
  grind
theorem dv_12 : ∀ k, k < 13 → 1 ≤ k → 27720 = k * (27720 / k) := by decide
theorem RI_all {z : Int64} {k : Nat} (hz : z.toInt = (k : Int)) (h1 : 1 ≤ k) (h12 : k ≤ 12) : RI (27720 / z) (27720 / (k : Rat)) := by
  have hd := dv_12 k (by omega) h1
  have zA : (27720 : Int64).toInt = 27720 := rfl
  have e : (27720 / z).toInt = ((27720 / k : Nat) : Int) := by
    rw [divL_ok (by omega) (by rw [hz, zA]; exact ⟨((27720 / k : Nat) : Int), by rw [← Int.natCast_mul, ← hd]; rfl⟩), hz, zA]
    rfl
  have := RI_64 (27720 / z)
  rw [e, Rat.intCast_natCast] at this
  refine RI_eq this ?_
  have hc : ((27720 : Nat) : Rat) = ((k : Nat) : Rat) * ((27720 / k : Nat) : Rat) := by
    rw [← Rat.natCast_mul, ← hd]
  have hk : (k : Rat) ≠ 0 := by
    have : (1 : Rat) ≤ (k : Rat) := cast_le h1
    grind
  have hc : (27720 : Rat) = ((k : Nat) : Rat) * ((27720 / k : Nat) : Rat) := hc
  rw [hc]
  grind
theorem hng_RI {arm : Nat → Int64} {W : Nat → Int32} {d w : Nat → Rat} : ∀ n, (∀ p, p < n → ((arm p).toInt : Rat) = d p ∧ ((W p).toInt : Rat) = w p) → RI (hngF arm W n) (-sQ (fun p => w p * tp (d p)) n)
  | 0, _ => RI_eq RI_0 (by simp only [sQ]; grind)
  | n + 1, hh => by
    have ih := hng_RI n (fun p hp => hh p (by omega))
    obtain ⟨h1, h2⟩ := hh n (by omega)
    have ha := RI_64 (arm n)
    have hw := RI_32 (W n)
    rw [h1] at ha
    rw [h2] at hw
    have e : 0 < (arm n).toInt ↔ 0 < d n := by
      rw [← h1]
      exact (Rat.intCast_lt_intCast (a := 0) (b := (arm n).toInt)).symm
    simp only [hngF, sQ]
    by_cases c : 0 < (arm n).toInt
    · rw [if_pos c]
      have c2 := e.mp c
      refine RI_eq (RI_sub ih (RI_mul hw ha)) ?_
      rw [tp_nn (Rat.le_of_lt c2)]
      grind
    · rw [if_neg c]
      have c2 : d n ≤ 0 := Rat.not_lt.mp (fun q => c (e.mpr q))
      refine RI_eq (RI_sub ih RI_0) ?_
      rw [tp_le c2]
      grind
theorem sm_first (hP : isP pl N) (hS : SolM I m N pl h w F) : RI (hngF (fun p => (I (m + 11) 0 - nI p).toInt64) (I (m + 13)) 13) (hanL (xR' pl) w) := by
  refine hng_RI 13 (fun p hp => ⟨?_, hS.2.2.2.1 p hp⟩)
  have h1 := isP_le hP (show 0 < N + 2 by omega)
  rw [hS.2.1 0 (by omega)]
  exact (RI_dif (by omega) (by omega)).2
theorem sm_end (hP : isP pl N) (hS : SolM I m N pl h w F) : RI (hngF (fun p => (nI p - I (m + 11) (N + 2 - 1)).toInt64) (I (m + 13)) 13) (hanR (xR' pl) w N) := by
  refine hng_RI 13 (fun p hp => ⟨?_, hS.2.2.2.1 p hp⟩)
  have h1 := isP_le hP (show N + 1 < N + 2 by omega)
  rw [show N + 2 - 1 = N + 1 by omega, hS.2.1 (N + 1) (by omega)]
  exact (RI_dif (by omega) (by omega)).2
theorem sm_h (hS : SolM I m N pl h w F) {k : Nat} (hk : k < N + 1) : RI (I (m + 12) (k + 1) - I (m + 12) k).toInt64 (h (k + 1) - h k) := by
  have h1 := hS.2.2.1 k (by omega)
  have h2 := hS.2.2.1 (k + 1) (by omega)
  have := RI_32 (I (m + 12) (k + 1) - I (m + 12) k)
  have e : (I (m + 12) (k + 1) - I (m + 12) k).toInt = (I (m + 12) (k + 1)).toInt - (I (m + 12) k).toInt := by
    rw [Int32.toInt_sub, Int.bmod_eq_of_le] <;> omega
  rw [e, Rat.intCast_sub, h1.1, h2.1] at this
  exact this
theorem sm_lt {a b : Nat} (ha : a < 2 ^ 30) (hb : b < 2 ^ 30) : nI a < nI b ↔ (a : Rat) < (b : Rat) := by
  rw [Int32.lt_iff_toInt_lt, nI_toInt (by omega), nI_toInt (by omega)]
  constructor
  · intro q
    exact cast_lt (by omega)
  · intro q
    rcases Nat.lt_or_ge a b with c | c
    · omega
    · have := cast_le c
      grind
theorem RI_27720 : RI 27720 27720 := ⟨27720, rfl, rfl⟩
theorem sm_right (hP : isP pl N) (hS : SolM I m N pl h w F) {j : Nat} (hj : j < N) : ∀ n, n ≤ 13 → RI (rgtF I m (j + 1) n) (27720 * (6 * F * d2 (spR pl N) h j - sQ (fun p => w p * insQ (xR' pl) (spR pl N) j p) n))
  | 0, _ => by
    have hA := RI_all (sm_in hP hS (show j + 1 < N + 1 by omega)).1 (sm_in hP hS (show j + 1 < N + 1 by omega)).2.1 (sm_in hP hS (show j + 1 < N + 1 by omega)).2.2
    have hL := RI_all (sm_in hP hS (show j < N + 1 by omega)).1 (sm_in hP hS (show j < N + 1 by omega)).2.1 (sm_in hP hS (show j < N + 1 by omega)).2.2
    have hF := RI_32 (I m 7)
    rw [hS.2.2.2.2] at hF
    have := RI_mul (RI_mul RI_6 hF) (RI_sub (RI_mul (sm_h hS (show j + 1 < N + 1 by omega)) hA) (RI_mul (sm_h hS (show j < N + 1 by omega)) hL))
    refine RI_eq this ?_
    simp only [sQ, d2, spR]
    grind
  | p + 1, hp => by
    have ih := sm_right hP hS hj p (by omega)
    have hA := RI_all (sm_in hP hS (show j + 1 < N + 1 by omega)).1 (sm_in hP hS (show j + 1 < N + 1 by omega)).2.1 (sm_in hP hS (show j + 1 < N + 1 by omega)).2.2
    have hL := RI_all (sm_in hP hS (show j < N + 1 by omega)).1 (sm_in hP hS (show j < N + 1 by omega)).2.1 (sm_in hP hS (show j < N + 1 by omega)).2.2
    have sA := sm_sd hP hS (show j + 1 < N + 1 by omega)
    have sL := sm_sd hP hS (show j < N + 1 by omega)
    have hw := RI_32 (I (m + 13) p)
    rw [hS.2.2.2.1 p (by omega)] at hw
    have x0 := hS.2.1 j (by omega)
    have x1 := hS.2.1 (j + 1) (by omega)
    have x2 := hS.2.1 (j + 2) (by omega)
    have b0 := isP_le hP (show j < N + 2 by omega)
    have b1 := isP_le hP (show j + 1 < N + 2 by omega)
    have b2 := isP_le hP (show j + 2 < N + 2 by omega)
    have d0 : RI (nI p - I (m + 11) j).toInt64 ((p : Rat) - (pl j : Rat)) := by rw [x0]; exact (RI_dif (by omega) (by omega)).1
    have dq : RI (I (m + 11) (j + 2) - nI p).toInt64 ((pl (j + 2) : Rat) - (p : Rat)) := by rw [x2]; exact (RI_dif (by omega) (by omega)).1
    have cA : rgtA I m (j + 1) p = true ↔ ((pl j : Rat) < (p : Rat) ∧ (p : Rat) < (pl (j + 1) : Rat)) := by
      unfold rgtA
      rw [decide_eq_true_iff, show j + 1 - 1 = j by omega, x0, x1, sm_lt (by omega) (by omega), sm_lt (by omega) (by omega)]
    have cB : rgtB I m (j + 1) p = true ↔ ((pl (j + 1) : Rat) < (p : Rat) ∧ (p : Rat) < (pl (j + 2) : Rat)) := by
      unfold rgtB
      rw [decide_eq_true_iff, x1, x2, sm_lt (by omega) (by omega), sm_lt (by omega) (by omega)]
    have uU : RI (rgtU I m (j + 1) p) (w p * ((p : Rat) - (pl j : Rat)) * (spR pl N j - ((p : Rat) - (pl j : Rat))) * (spR pl N j + ((p : Rat) - (pl j : Rat))) * (27720 / spR pl N j)) := RI_mul (RI_mul (RI_mul (RI_mul hw d0) (RI_sub sL d0)) (RI_add sL d0)) hL
    have uV : RI (rgtV I m (j + 1) p) (w p * ((pl (j + 2) : Rat) - (p : Rat)) * (spR pl N (j + 1) - ((pl (j + 2) : Rat) - (p : Rat))) * (spR pl N (j + 1) + ((pl (j + 2) : Rat) - (p : Rat))) * (27720 / spR pl N (j + 1))) := RI_mul (RI_mul (RI_mul (RI_mul hw dq) (RI_sub sA dq)) (RI_add sA dq)) hA
    have n0 : spR pl N j ≠ 0 := by have := sp_one hP j; grind
    have n1 : spR pl N (j + 1) ≠ 0 := by have := sp_one hP (j + 1); grind
    simp only [rgtF, sQ]
    have i1 : insQ (xR' pl) (spR pl N) j (p : Rat) = (if (pl j : Rat) < (p : Rat) ∧ (p : Rat) < (pl (j + 1) : Rat) then ((p : Rat) - pl j) * (spR pl N j - ((p : Rat) - pl j)) * (spR pl N j + ((p : Rat) - pl j)) / spR pl N j else 0) + (if (pl (j + 1) : Rat) < (p : Rat) ∧ (p : Rat) < (pl (j + 2) : Rat) then ((pl (j + 2) : Rat) - p) * (spR pl N (j + 1) - ((pl (j + 2) : Rat) - p)) * (spR pl N (j + 1) + ((pl (j + 2) : Rat) - p)) / spR pl N (j + 1) else 0) := rfl
    by_cases qA : rgtA I m (j + 1) p = true
    · by_cases qB : rgtB I m (j + 1) p = true
      · rw [rgt1_t qA, rgt2_t qB]
        refine RI_eq (RI_sub (RI_sub ih uU) uV) ?_
        rw [i1, if_pos (cA.mp qA), if_pos (cB.mp qB)]
        grind
      · rw [rgt1_t qA, rgt2_f (by cases e : rgtB I m (j + 1) p with | false => rfl | true => exact absurd e qB)]
        refine RI_eq (RI_sub ih uU) ?_
        rw [i1, if_pos (cA.mp qA), if_neg (fun g => qB (cB.mpr g))]
        grind
    · rw [rgt1_f (by cases e : rgtA I m (j + 1) p with | false => rfl | true => exact absurd e qA)]
      by_cases qB : rgtB I m (j + 1) p = true
      · rw [rgt2_t qB]
        refine RI_eq (RI_sub ih uV) ?_
        rw [i1, if_neg (fun g => qA (cA.mpr g)), if_pos (cB.mp qB)]
        grind
      · rw [rgt2_f (by cases e : rgtB I m (j + 1) p with | false => rfl | true => exact absurd e qB)]
        refine RI_eq ih ?_
        rw [i1, if_neg (fun g => qA (cA.mpr g)), if_neg (fun g => qB (cB.mpr g))]
        grind
end SM
