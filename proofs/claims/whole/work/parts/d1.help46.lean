section BN
variable {s : Nat → Rat} {n : Nat}
theorem hd_1 {D A : Int64} {i : Nat} (h0 : 0 < i) (h1 : i ≤ 1) (hD : RI D (2 * (s (i - 1) + s i))) (hA : RI A (cH s (i - 1 + 1))) : RI (D * A - 0) (cH s (i + 1)) := by
  have e : i = 1 := by omega
  subst e
  refine RI_eq (RI_sub (RI_mul hD hA) RI_0) ?_
  simp only [cH, Nat.sub_self]
  grind
theorem hd_2 {D A S1 B : Int64} {i : Nat} (h1 : 1 < i) (hD : RI D (2 * (s (i - 1) + s i))) (hA : RI A (cH s (i - 1 + 1))) (hS : RI S1 (s (i - 1))) (hB : RI B (cH s (i - 2 + 1))) : RI (D * A - S1 * S1 * B) (cH s (i + 1)) := by
  obtain ⟨k, rfl⟩ : ∃ k, i = k + 2 := ⟨i - 2, by omega⟩
  refine RI_eq (RI_sub (RI_mul hD hA) (RI_mul (RI_mul hS hS) hB)) ?_
  rw [show k + 2 - 1 = k + 1 by omega, show k + 2 - 2 = k by omega]
  show _ = 2 * (s (k + 1) + s (k + 1 + 1)) * cH s (k + 1 + 1) - s (k + 1) * s (k + 1) * cH s (k + 1)
  rfl
theorem tl_1 {D A : Int64} {i : Nat} (h0 : 0 < i) (h1 : i = n) (hD : RI D (2 * (s (i - 1) + s i))) (hA : RI A (tlQ s n (i + 1))) : RI (D * A - 0) (tlQ s n i) := by
  obtain ⟨t1, t2, t3⟩ := tl_ok s n
  obtain ⟨k, rfl⟩ : ∃ k, i = k + 1 := ⟨i - 1, by omega⟩
  refine RI_eq (RI_sub (RI_mul hD hA) RI_0) ?_
  rw [t3 k (by omega), show k + 3 = n + 2 by omega, t2, show k + 1 - 1 = k by omega]
  grind
theorem tl_2 {D A S1 B : Int64} {i : Nat} (h0 : 0 < i) (h1 : i < n) (hD : RI D (2 * (s (i - 1) + s i))) (hA : RI A (tlQ s n (i + 1))) (hS : RI S1 (s i)) (hB : RI B (tlQ s n (i + 2))) : RI (D * A - S1 * S1 * B) (tlQ s n i) := by
  obtain ⟨t1, t2, t3⟩ := tl_ok s n
  obtain ⟨k, rfl⟩ : ∃ k, i = k + 1 := ⟨i - 1, by omega⟩
  refine RI_eq (RI_sub (RI_mul hD hA) (RI_mul (RI_mul hS hS) hB)) ?_
  rw [t3 k (by omega), show k + 1 - 1 = k by omega]
theorem gE_mm {T : Nat → Rat} {a b : Nat} : gE s T a b = cH s (min a b) * nPr s (min a b) (max a b - min a b) * T (max a b + 1) := by
  unfold gE
  split
  · rename_i c
    rw [Nat.min_eq_left c, Nat.max_eq_right c]
  · rename_i c
    rw [Nat.min_eq_right (by omega), Nat.max_eq_left (by omega)]
def frBn (m : Nat) (L L' : LM) : Prop := ∀ a k, (a ≠ m ∨ k ≠ 29) → a ≠ m + 16 → a ≠ m + 17 → a ≠ m + 18 → a ≠ m + 19 → L' a k = L a k
def hdF (m : Nat) (L : LM) (s : Nat → Rat) (i : Nat) : Prop := ∀ k, k < i → RI (L (m + 18) k) (cH s (k + 1))
def rtF (m : Nat) (L : LM) (r : Nat → Rat) (i : Nat) : Prop := ∀ k, k + 1 < i → RI (L (m + 17) (k + 1)) (27720 * r k)
def tlF (m : Nat) (L : LM) (s : Nat → Rat) (n i : Nat) : Prop := ∀ k, i < k → k ≤ n + 2 → RI (L (m + 19) k) (tlQ s n k)
def moF (m : Nat) (L : LM) (g : Nat → Rat) (n i : Nat) : Prop := ∀ k, (k < i ∨ k = n + 1) → RI (L (m + 16) k) (g k)
theorem hr_s {m i : Nat} {L2 : LM} {E1 E2 : Int64} {r : Nat → Rat} (h0 : 0 < i) (h1 : hdF m L2 s i) (h2 : rtF m L2 r i) (hE1 : RI E1 (cH s (i + 1))) (hE2 : RI E2 (27720 * r (i - 1))) : hdF m (u2 (u2 L2 (m + 18) i E1) (m + 17) i E2) s (i + 1) ∧ rtF m (u2 (u2 L2 (m + 18) i E1) (m + 17) i E2) r (i + 1) := by
  refine ⟨fun k hk => ?_, fun k hk => ?_⟩
  · rw [u2_n1 (by omega)]
    by_cases c : k = i
    · rw [c, u2_s]; exact hE1
    · rw [u2_n2 c]; exact h1 k (by omega)
  · by_cases c : k + 1 = i
    · rw [c, u2_s]
      rw [show i - 1 = k by omega] at hE2
      exact hE2
    · rw [u2_n2 c, u2_n1 (by omega)]; exact h2 k (by omega)
theorem frBn_0 {m : Nat} {L : LM} : frBn m L L := fun _ _ _ _ _ _ _ => rfl
theorem frBn_u {m c k : Nat} {L L' : LM} {x : Int64} (h : frBn m L L') (hc : (c = m ∧ k = 29) ∨ c = m + 16 ∨ c = m + 17 ∨ c = m + 18 ∨ c = m + 19) : frBn m L (u2 L' c k x) := fun a j q1 q2 q3 q4 q5 => by
  unfold u2
  rw [if_neg (by omega)]
  exact h a j q1 q2 q3 q4 q5
theorem hdF_u {m c k i : Nat} {L : LM} {x : Int64} (h : hdF m L s i) (hc : c ≠ m + 18) : hdF m (u2 L c k x) s i := fun j hj => by rw [u2_n1 (Ne.symm hc)]; exact h j hj
theorem rtF_u {m c k i : Nat} {L : LM} {x : Int64} {r : Nat → Rat} (h : rtF m L r i) (hc : c ≠ m + 17) : rtF m (u2 L c k x) r i := fun j hj => by rw [u2_n1 (Ne.symm hc)]; exact h j hj
theorem tlF_u {m c k i : Nat} {L : LM} {x : Int64} (h : tlF m L s n i) (hc : c ≠ m + 19) : tlF m (u2 L c k x) s n i := fun j hj hj2 => by rw [u2_n1 (Ne.symm hc)]; exact h j hj hj2
theorem tlF_0 {m : Nat} {L : LM} : tlF m (u2 (u2 L (m + 19) (n + 1) 1) (m + 19) (n + 2) 0) s n n := fun k h1 h2 => by
  obtain ⟨t1, t2, t3⟩ := tl_ok s n
  by_cases c : k = n + 2
  · rw [c, u2_s, t2]; exact RI_0
  · rw [u2_n2 c, show k = n + 1 by omega, u2_s, t1]; exact RI_1
theorem tlF_s {m i : Nat} {L : LM} {E : Int64} (h0 : 0 < i) (h : tlF m L s n i) (hE : RI E (tlQ s n i)) : tlF m (u2 L (m + 19) i E) s n (i - 1) := fun k h1 h2 => by
  by_cases c : k = i
  · rw [c, u2_s]; exact hE
  · rw [u2_n2 c]; exact h k (by omega) h2
theorem moF_s {m i : Nat} {L : LM} {E : Int64} {g : Nat → Rat} (hi : i ≤ n) (h : moF m L g n i) (hE : RI E (g i)) : moF m (u2 L (m + 16) i E) g n (i + 1) := fun k hk => by
  by_cases c : k = i
  · rw [c, u2_s]; exact hE
  · rw [u2_n2 c]; exact h k (by omega)
theorem moF_0 {m : Nat} {L : LM} {E0 E1 : Int64} {g : Nat → Rat} (h0 : RI E0 (g 0)) (h1 : RI E1 (g (n + 1))) : moF m (u2 (u2 L (m + 16) 0 E0) (m + 16) (n + 1) E1) g n 1 := fun k hk => by
  by_cases c : k = n + 1
  · rw [c, u2_s]; exact h1
  · rw [u2_n2 c, show k = 0 by omega, u2_s]; exact h0
end BN
def momM (pl : Nat → Nat) (h w : Nat → Rat) (F : Rat) (n i : Nat) : Rat := 27720 * cH (spR pl n) (n + 1) * momQ (xR' pl) (spR pl n) h w (tlQ (spR pl n) n) F n i
def bndP (sh : Sh) (I : IM) (L : LM) (R : RM) (m n : Nat) (pl : Nat → Nat) (h w : Nat → Rat) (F : Rat) : PPost := fun ret sh' I' L' R' => ret = none ∧ sh' = sh ∧ R' = R ∧ I' = I ∧ frBn m L L' ∧ RI (L' m 29) (cH (spR pl n) (n + 1)) ∧ ∀ i, i < n + 2 → RI (L' (m + 16) i) (momM pl h w F n i)
theorem sm_nz {I : IM} {m n : Nat} {pl : Nat → Nat} {h w : Nat → Rat} {F : Rat} (hP : isP pl n) (hS : SolM I m n pl h w F) {i : Nat} (hi : i < n + 1) : ¬ (I (m + 11) (i + 1) - I (m + 11) i).toInt64 = 0 := fun q => by
  have := sm_in hP hS hi
  rw [q] at this
  have z : (0 : Int64).toInt = 0 := rfl
  omega
theorem rho_M {x s h w : Nat → Rat} {F : Rat} {n i : Nat} {r0 S0 Sn fi en : Int64} (h0 : 0 < i) (hr : RI r0 (27720 * (6 * F * d2 s h (i - 1) - sQ (fun p => w p * insQ x s (i - 1) p) 13))) (hf : RI fi (hanL x w)) (he : RI en (hanR x w n)) (hS0 : RI S0 (s 0)) (hSn : RI Sn (s n)) :
    (i = 1 → i = n → RI (r0 - 27720 * S0 * fi - 27720 * Sn * en) (27720 * rhoQ x s h w F n (i - 1))) ∧ (i = 1 → ¬ i = n → RI (r0 - 27720 * S0 * fi - 0) (27720 * rhoQ x s h w F n (i - 1))) ∧ (¬ i = 1 → i = n → RI (r0 - 0 - 27720 * Sn * en) (27720 * rhoQ x s h w F n (i - 1))) ∧ (¬ i = 1 → ¬ i = n → RI (r0 - 0 - 0) (27720 * rhoQ x s h w F n (i - 1))) := by
  have hA := RI_mul (RI_mul RI_27720 hS0) hf
  have hB := RI_mul (RI_mul RI_27720 hSn) he
  refine ⟨fun a b => RI_eq (RI_sub (RI_sub hr hA) hB) ?_, fun a b => RI_eq (RI_sub (RI_sub hr hA) RI_0) ?_, fun a b => RI_eq (RI_sub (RI_sub hr RI_0) hB) ?_, fun a b => RI_eq (RI_sub (RI_sub hr RI_0) RI_0) ?_⟩
  · unfold rhoQ
    rw [if_pos (show i - 1 = 0 by omega), if_pos (show i - 1 + 1 = n by omega)]
    grind
  · unfold rhoQ
    rw [if_pos (show i - 1 = 0 by omega), if_neg (show ¬ i - 1 + 1 = n by omega)]
    grind
  · unfold rhoQ
    rw [if_neg (show ¬ i - 1 = 0 by omega), if_pos (show i - 1 + 1 = n by omega)]
    grind
  · unfold rhoQ
    rw [if_neg (show ¬ i - 1 = 0 by omega), if_neg (show ¬ i - 1 + 1 = n by omega)]
    grind
/-- a term of the inverse, and its sum -/
theorem by_M {s T r : Nat → Rat} {i j : Nat} {sm b R1 : Int64} (hj : 1 ≤ j) (hs : RI sm (sQ (fun k => gE s T i (k + 1) * (27720 * r k)) (j - 1))) (hb : RI b (cH s (min i j) * T (max i j + 1) * nPr s (min i j) (max i j - min i j))) (hR : RI R1 (27720 * r (j - 1))) : RI (sm + b * R1) (sQ (fun k => gE s T i (k + 1) * (27720 * r k)) (j + 1 - 1)) := by
  obtain ⟨k, rfl⟩ : ∃ k, j = k + 1 := ⟨j - 1, by omega⟩
  rw [show k + 1 - 1 = k by omega] at hs hR
  rw [show k + 1 + 1 - 1 = k + 1 by omega]
  refine RI_eq (RI_add hs (RI_mul hb hR)) ?_
  simp only [sQ]
  rw [gE_mm]
  grind
theorem by_s {s : Nat → Rat} {lo k : Nat} {b S1 : Int64} {c : Rat} (hk : lo ≤ k) (hb : RI b (c * nPr s lo (k - lo))) (hS : RI S1 (s k)) : RI (b * -S1) (c * nPr s lo (k + 1 - lo)) := by
  refine RI_eq (RI_mul hb (RI_neg hS)) ?_
  rw [show k + 1 - lo = (k - lo) + 1 by omega]
  simp only [nPr]
  rw [show lo + (k - lo) = k by omega]
  grind
theorem mom_M {pl : Nat → Nat} {h w : Nat → Rat} {F : Rat} {n i : Nat} {sm : Int64} (h1 : 1 ≤ i) (hn : i ≤ n) (hP : isP pl n) (hs : RI sm (sQ (fun k => gE (spR pl n) (tlQ (spR pl n) n) i (k + 1) * (27720 * rhoQ (xR' pl) (spR pl n) h w F n k)) n)) : RI sm (momM pl h w F n i) := by
  refine RI_eq hs ?_
  have hc := (cH_pos (fun k => (isP_X hP).1 k) n).1
  have hne : cH (spR pl n) (n + 1) ≠ 0 := by grind
  unfold momM momQ
  rw [if_neg (by omega), if_neg (by omega)]
  have e : sQ (fun k => gE (spR pl n) (tlQ (spR pl n) n) i (k + 1) * (27720 * rhoQ (xR' pl) (spR pl n) h w F n k)) n = 27720 * sQ (fun k => gE (spR pl n) (tlQ (spR pl n) n) i (k + 1) * rhoQ (xR' pl) (spR pl n) h w F n k) n := by
    rw [← sQ_mul]
    exact sQ_congr (fun k _ => by grind)
  rw [e]
  grind
theorem mom_0 {pl : Nat → Nat} {h w : Nat → Rat} {F : Rat} {n : Nat} {fi d : Int64} (hf : RI fi (hanL (xR' pl) w)) (hd : RI d (cH (spR pl n) (n + 1))) : RI (fi * 27720 * d) (momM pl h w F n 0) := by
  refine RI_eq (RI_mul (RI_mul hf RI_27720) hd) ?_
  unfold momM momQ
  rw [if_pos rfl]
  grind
theorem mom_n {pl : Nat → Nat} {h w : Nat → Rat} {F : Rat} {n : Nat} {fi d : Int64} (hf : RI fi (hanR (xR' pl) w n)) (hd : RI d (cH (spR pl n) (n + 1))) : RI (fi * 27720 * d) (momM pl h w F n (n + 1)) := by
  refine RI_eq (RI_mul (RI_mul hf RI_27720) hd) ?_
  unfold momM momQ
  rw [if_neg (by omega), if_pos rfl]
  grind
