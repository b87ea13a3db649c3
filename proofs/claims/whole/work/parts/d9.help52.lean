def goB (pl : Nat → Nat) (h w : Nat → Rat) (F : Rat) (n i : Nat) (q : Rat) : Rat := q + (1 * pT1 pl h w F n i) + (1 * (sQ (pbF w (pl i) (pl (i + 1))) (pl (i + 1)) / spR pl n i))
def goC (pl : Nat → Nat) (h w : Nat → Rat) (F : Rat) (n k : Nat) (q : Rat) : Rat := q + ((-1) * pT1 pl h w F n k) + ((-1) * (sQ (pfF w (pl k) (pl (k + 1))) (pl (k + 1)) / spR pl n k))
theorem go_pb {pl : Nat → Nat} {w : Nat → Rat} {n i : Nat} (hP : isP pl n) (hi : i ≤ n) : sQ (pbG pl w n i) 13 = sQ (pbF w (pl i) (pl (i + 1))) (pl (i + 1)) / spR pl n i := by
  have h1 := isP_le hP (show i + 1 < n + 2 by omega)
  have hn : spR pl n i ≠ 0 := by have := sp_one hP i; grind
  rw [sQ_nat (f := pbG pl w n i) (n := pl (i + 1)) 13 (by omega) (fun k h1 h2 => by unfold pbG; exact if_neg (by omega))]
  have e : sQ (pbG pl w n i) (pl (i + 1)) = sQ (fun p => (1 / spR pl n i) * pbF w (pl i) (pl (i + 1)) p) (pl (i + 1)) := sQ_congr (fun p hp => by
    unfold pbG pbF
    by_cases c : pl i < p
    · rw [if_pos ⟨hi, c, hp⟩, if_pos c]; grind
    · rw [if_neg (by omega), if_neg c]; grind)
  rw [e, sQ_mul]
  grind
theorem go_pf {pl : Nat → Nat} {w : Nat → Rat} {n k : Nat} (hP : isP pl n) (hk : k ≤ n) : sQ (pfG pl w n (k + 1)) 13 = (-1) * (sQ (pfF w (pl k) (pl (k + 1))) (pl (k + 1)) / spR pl n k) := by
  have h1 := isP_le hP (show k + 1 < n + 2 by omega)
  have hn : spR pl n k ≠ 0 := by have := sp_one hP k; grind
  rw [sQ_nat (f := pfG pl w n (k + 1)) (n := pl (k + 1)) 13 (by omega) (fun p h1 h2 => by unfold pfG; exact if_neg (by omega))]
  have e : sQ (pfG pl w n (k + 1)) (pl (k + 1)) = sQ (fun p => (-1 / spR pl n k) * pfF w (pl k) (pl (k + 1)) p) (pl (k + 1)) := sQ_congr (fun p hp => by
    unfold pfG pfF
    rw [show k + 1 - 1 = k by omega]
    by_cases c : pl k < p
    · rw [if_pos ⟨by omega, c, hp⟩, if_pos c]; grind
    · rw [if_neg (by omega), if_neg c]; grind)
  rw [e, sQ_mul]
  grind
theorem go_hat {pl : Nat → Nat} {w : Nat → Rat} {n i : Nat} (hP : isP pl n) (hi : i ≤ n + 1) : sQ (fun p => w p * hatQ (xR' pl) (spR pl n) n i p) 13 = w (pl i) + sQ (outF pl w n i) 13 + sQ (pbG pl w n i) 13 + sQ (pfG pl w n i) 13 := by
  have h1 := isP_le hP (show i < n + 2 by omega)
  have e0 : sQ (atF pl w i) 13 = w (pl i) := sQ_one 13 (show pl i < 13 by omega) (fun k _ => by
    unfold atF
    by_cases c : k = pl i
    · rw [if_pos c, if_pos c, c]
    · rw [if_neg c, if_neg c])
  rw [sQ_congr (fun p _ => hat_s hP hi), sQ_add, sQ_add, sQ_add]
  have e1 : sQ (fun p => atF pl w i p) 13 = w (pl i) := e0
  rw [e1]
theorem go_1 {pl : Nat → Nat} {h w : Nat → Rat} {F : Rat} {n : Nat} (hP : isP pl n) : goB pl h w F n 0 (w (pl 0) + sQ (outF pl w n 0) 13) = ldP pl h w F n 0 := by
  have e := go_hat (w := w) hP (show 0 ≤ n + 1 by omega)
  have z : sQ (pfG pl w n 0) 13 = 0 := sQ_zero (fun p _ => if_neg (by omega))
  unfold ldP ldQ
  rw [e, go_pb hP (Nat.zero_le n), z]
  unfold goB pT1 mqM dd
  rw [if_pos (Nat.zero_le n), if_pos rfl]
  grind
theorem go_2 {pl : Nat → Nat} {h w : Nat → Rat} {F : Rat} {n k : Nat} (hP : isP pl n) (hk : k + 1 ≤ n) : goC pl h w F n k (goB pl h w F n (k + 1) (w (pl (k + 1)) + sQ (outF pl w n (k + 1)) 13)) = ldP pl h w F n (k + 1) := by
  have e := go_hat (w := w) hP (show k + 1 ≤ n + 1 by omega)
  unfold ldP ldQ
  rw [e, go_pb hP hk, go_pf hP (by omega)]
  unfold goC goB pT1 mqM dd
  rw [if_pos hk, if_neg (by omega), show k + 1 - 1 = k by omega]
  grind
theorem go_3 {pl : Nat → Nat} {h w : Nat → Rat} {F : Rat} {n : Nat} (hP : isP pl n) : goC pl h w F n n (w (pl (n + 1)) + sQ (outF pl w n (n + 1)) 13) = ldP pl h w F n (n + 1) := by
  have e := go_hat (w := w) hP (Nat.le_refl (n + 1))
  have z : sQ (pbG pl w n (n + 1)) 13 = 0 := sQ_zero (fun p _ => if_neg (by omega))
  unfold ldP ldQ
  rw [e, go_pf hP (Nat.le_refl n), z]
  unfold goC pT1 mqM dd
  rw [if_neg (by omega), if_neg (by omega), show n + 1 - 1 = n by omega]
  grind
def gofr (m : Nat) (L L' : LM) : Prop := ∀ a k, (a ≠ m ∨ (k ≠ 17 ∧ k ≠ 18 ∧ k ≠ 29)) → (a < m + 14 ∨ m + 19 < a) → L' a k = L a k
def goI (L L2 : LM) (m n : Nat) (pl : Nat → Nat) (h w : Nat → Rat) (F : Rat) (i : Nat) : Prop := gofr m L L2 ∧ RI (L2 m 29) (cH (spR pl n) (n + 1)) ∧ (∀ j, j < n + 2 → RI (L2 (m + 16) j) (momM pl h w F n j)) ∧ ∀ j, j < i → RF (L2 (m + 14) j) (L2 (m + 15) j) (ldP pl h w F n j)
def golP (sh : Sh) (I : IM) (L : LM) (R : RM) (m n : Nat) (pl : Nat → Nat) (h w : Nat → Rat) (F : Rat) : PPost := fun ret sh' I' L' R' => ret = none ∧ sh' = sh ∧ R' = R ∧ I' = I ∧ goI L L' m n pl h w F (n + 2)
theorem goI_0 {L L2 : LM} {m n : Nat} {pl : Nat → Nat} {h w : Nat → Rat} {F : Rat} (f : frBn m L L2) (h1 : RI (L2 m 29) (cH (spR pl n) (n + 1))) (h2 : ∀ j, j < n + 2 → RI (L2 (m + 16) j) (momM pl h w F n j)) : goI L L2 m n pl h w F 0 := ⟨fun a k q1 q2 => f a k (by omega) (by omega) (by omega) (by omega) (by omega), h1, h2, fun j hj => absurd hj (Nat.not_lt_zero j)⟩
theorem goI_F {L L2 L3 : LM} {m n i : Nat} {pl : Nat → Nat} {h w : Nat → Rat} {F : Rat} (f : frF m L2 L3) (g : goI L L2 m n pl h w F i) : goI L L3 m n pl h w F i := by
  obtain ⟨g1, g2, g3, g4⟩ := g
  refine ⟨fun a k q1 q2 => (f a k (by omega)).trans (g1 a k q1 q2), by rw [f _ _ (by omega)]; exact g2, fun j hj => by rw [f _ _ (by omega)]; exact g3 j hj, fun j hj => by rw [f _ _ (by omega), f _ _ (by omega)]; exact g4 j hj⟩
theorem goI_s {L L3 : LM} {m n i : Nat} {pl : Nat → Nat} {h w : Nat → Rat} {F : Rat} (g : goI L L3 m n pl h w F i) (hq : RF (L3 m 17) (L3 m 18) (ldP pl h w F n i)) : goI L (u2 (u2 L3 (m + 14) i (L3 m 17)) (m + 15) i (u2 L3 (m + 14) i (L3 m 17) m 18)) m n pl h w F (i + 1) := by
  obtain ⟨g1, g2, g3, g4⟩ := g
  refine ⟨fun a k q1 q2 => by rw [u2_n1 (by omega), u2_n1 (by omega)]; exact g1 a k q1 q2, by rw [u2_n1 (by omega), u2_n1 (by omega)]; exact g2, fun j hj => by rw [u2_n1 (by omega), u2_n1 (by omega)]; exact g3 j hj, fun j hj => ?_⟩
  rw [u2_n1 (show m + 14 ≠ m + 15 by omega)]
  by_cases c : j = i
  · subst c
    rw [u2_s, u2_s, u2_n1 (by omega)]
    exact hq
  · rw [u2_n2 c, u2_n2 c, u2_n1 (by omega)]
    exact g4 j (by omega)
theorem out_in {pl : Nat → Nat} {w : Nat → Rat} {n i p : Nat} (hw : ∀ p, p < 13 → 0 ≤ w p ∧ w p ≤ 50) (hp : p ≤ 13) (hi : pl i ≤ 12) : inQ (w (pl i) + sQ (outF pl w n i) p) 1000 := by
  have h1 := hw (pl i) (by omega)
  have w1 : inQ (w (pl i)) 50 := by unfold inQ; grind
  refine inQ_le (inQ_add w1 (sQ_in (c := 50) hp (by grind) (fun k hk => ?_))) (by grind)
  have h2 := hw k (by omega)
  unfold outF
  split
  · unfold inQ; grind
  · exact inQ_0 (by grind)
theorem goB_in {pl : Nat → Nat} {h w : Nat → Rat} {F H q : Rat} {n i : Nat} (hB : okB pl h w F H n) (hi : i < n + 1) (hq : inQ q 1000) : inQ (goB pl h w F n i q) 1000000 := by
  have hi1 := pT1_in hB hi
  have hi2 := dv_in (pbf_in hB.1 hi hB.2.1).1 (spR_in hB.1 i).2.1 (by grind)
  unfold goB
  exact inQ_le (inQ_add (inQ_add hq (sg_in (Or.inl rfl) hi1)) (sg_in (Or.inl rfl) hi2)) (by grind)
