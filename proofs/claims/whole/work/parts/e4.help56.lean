def smV (pl : Nat → Nat) (h w : Nat → Rat) (F : Rat) (n : Nat) (cc : Rat → Rat) (x : Nat) : Rat := sQ (fun k => ldP pl h w F n k * cc ((x : Rat) - pl k)) (n + 2) - sQ (fun p => w p * cc ((x : Rat) - p)) 13
def frU (m : Nat) (L L' : LM) : Prop := ∀ a k, (a ≠ m ∨ (k ≠ 17 ∧ k ≠ 18 ∧ k ≠ 30 ∧ k ≠ 31)) → L' a k = L a k
def sumP (sh : Sh) (I : IM) (L : LM) (R : RM) (m D : Nat) (v : Rat) : PPost := fun ret sh' I' L' R' => ret = none ∧ sh' = sh ∧ R' = R ∧ I' = I ∧ frU m L L' ∧ RF (L' m 30) (L' m 31) v ∧ v.den ∣ D
def loF (L : LM) (m n : Nat) (pl : Nat → Nat) (h w : Nat → Rat) (F : Rat) : Prop := ∀ j, j < n + 2 → RF (L (m + 14) j) (L (m + 15) j) (ldP pl h w F n j)
theorem ld_D {I : IM} {m n i D : Nat} {pl : Nat → Nat} {h w : Nat → Rat} {F : Rat} (hP : isP pl n) (hS : SolM I m n pl h w F) (hi : i < n + 2) (hDQ : DQ (spR pl n) n = (D : Rat)) (hD : 0 < D) : (ldP pl h w F n i).den ∣ D := by
  obtain ⟨z, hz⟩ := dq_int hP hS hi
  refine int_dv hD (z := z) ?_
  rw [← hz, hDQ]
  grind
theorem x_in {x a : Nat} (hx : x ≤ 12) (ha : a ≤ 12) : inQ ((x : Rat) - a) 12 := by
  have c0 : (0 : Rat) ≤ (x : Rat) := cast_le (Nat.zero_le x)
  have c1 : (x : Rat) ≤ 12 := cast_le hx
  have c4 : (0 : Rat) ≤ (a : Rat) := cast_le (Nat.zero_le a)
  have c5 : (a : Rat) ≤ 12 := cast_le ha
  unfold inQ
  grind
theorem cc_n {q : Int32} {cc : Rat → Rat} (h : ccOk q cc) {x a : Nat} (hx : x ≤ 12) (ha : a ≤ 12) : RI (cubM (nI x - nI a).toInt64 q) (cc ((x : Rat) - a)) ∧ inQ (cc ((x : Rat) - a)) 1728 := h _ _ (RI_dif (by omega) (by omega)).2 (x_in hx ha)
theorem ld_141 {n i : Nat} {pl : Nat → Nat} {h w : Nat → Rat} {F H : Rat} (hB : okB pl h w F H n) (hi : i < n + 2) : inQ (ldP pl h w F n i) 141000 := by
  have h1 := ld_in (okN hB) (tl_ok _ _) (show i ≤ n + 1 by omega)
  have h2 := KM_le hB
  exact inQ_le h1 (by grind)
theorem sm_a {n i D : Nat} {pl : Nat → Nat} {h w : Nat → Rat} {F H : Rat} {a b c : Int64} {cv : Rat} (hB : okB pl h w F H n) (hi : i < n + 2) (hR : RF a b (ldP pl h w F n i)) (hd : (ldP pl h w F n i).den ∣ D) (hD : 0 < D) (hDl : D ≤ 204472320) (hc : RI c cv) (hcv : inQ cv 1728) : ((a * c).toInt : Rat) = (ldP pl h w F n i * cv) * (b.toInt : Rat) ∧ 0 < b.toInt ∧ b.toInt.natAbs ∣ D := by
  obtain ⟨h1, h2⟩ := hR
  have hpos := (ldP pl h w F n i).den_pos
  have hle := Nat.le_of_dvd hD hd
  have hden : inQ (((ldP pl h w F n i).den : Nat) : Rat) 204472320 := by
    have c1 : (((ldP pl h w F n i).den : Nat) : Rat) ≤ 204472320 := cast_le (b := 204472320) (by omega)
    have c0 : (0 : Rat) ≤ (((ldP pl h w F n i).den : Nat) : Rat) := cast_le (Nat.zero_le _)
    unfold inQ
    grind
  have ha := RI_64 a
  rw [h1, num_den] at ha
  refine ⟨?_, by omega, by rw [h2]; exact hd⟩
  rw [RI_get (RI_mul ha hc) (inQ_le (inQ_mul (inQ_mul (ld_141 hB hi) hden) hcv) (by grind)), h2, Rat.intCast_natCast]
  grind
theorem sm_b {w : Nat → Rat} {p : Nat} {x : Int32} {c : Int64} {cv : Rat} (hx : (x.toInt : Rat) = w p) (hw : 0 ≤ w p ∧ w p ≤ 50) (hc : RI c cv) (hcv : inQ cv 1728) : (((-x).toInt64 * c).toInt : Rat) = (-(w p * cv)) * ((1 : Int64).toInt : Rat) := by
  have w2 : inQ (-w p) 50 := by unfold inQ; grind
  rw [RI_get (RI_mul (neg_RI hx hw.1) hc) (inQ_le (inQ_mul w2 hcv) (by grind))]
  show _ = _ * ((1 : Int) : Rat)
  rw [Rat.intCast_one]
  grind
theorem sm_in1 {n i x : Nat} {pl : Nat → Nat} {h w : Nat → Rat} {F H : Rat} {cc : Rat → Rat} {q : Int32} (hB : okB pl h w F H n) (hc : ccOk q cc) (hx : x ≤ 12) (hi : i ≤ n + 2) : inQ (sQ (fun k => ldP pl h w F n k * cc ((x : Rat) - pl k)) i) 3200000000 := by
  have h5 := hB.1.1
  refine inQ_le (sQ_in (c := 141000 * 1728) (by omega) (by grind) (fun k hk => inQ_mul (ld_141 hB (by omega)) (cc_n hc hx (isP_le hB.1 (by omega))).2)) (by grind)
theorem sm_in2 {i x : Nat} {w : Nat → Rat} {cc : Rat → Rat} {q : Int32} (hw : ∀ p, p < 13 → 0 ≤ w p ∧ w p ≤ 50) (hc : ccOk q cc) (hx : x ≤ 12) (hi : i ≤ 13) : inQ (sQ (fun p => w p * cc ((x : Rat) - p)) i) 1200000 := by
  refine inQ_le (sQ_in (c := 50 * 1728) hi (by grind) (fun k hk => ?_)) (by grind)
  have h1 := hw k (by omega)
  have w1 : inQ (w k) 50 := by unfold inQ; grind
  exact inQ_mul w1 (cc_n hc hx (by omega)).2
theorem D_inQ {D : Nat} (h : D ≤ 204472320) : inQ (D : Rat) 204472320 := by
  have c1 : (D : Rat) ≤ 204472320 := cast_le (b := 204472320) h
  have c0 : (0 : Rat) ≤ (D : Rat) := cast_le (Nat.zero_le _)
  unfold inQ
  grind
