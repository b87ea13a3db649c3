theorem sm_s1 {I : IM} {m n : Nat} {pl : Nat → Nat} {h w : Nat → Rat} {F : Rat} (hP : isP pl n) (hS : SolM I m n pl h w F) {i : Nat} (h0 : 0 < i) (hi : i < n + 1) : RI (I (m + 11) (i - 1 + 1) - I (m + 11) (i - 1)).toInt64 (spR pl n (i - 1)) := sm_sd hP hS (by omega)
theorem sm_l0 {I : IM} {m n : Nat} {pl : Nat → Nat} {h w : Nat → Rat} {F : Rat} (hP : isP pl n) (hS : SolM I m n pl h w F) {i : Nat} (h0 : 0 < i) (hi : i < n + 1) : ¬ lftX I m i = 0 := by
  have := sm_nz hP hS (show i - 1 < n + 1 by omega)
  rw [show i - 1 + 1 = i by omega] at this
  exact this
theorem sm_rt {I : IM} {m n : Nat} {pl : Nat → Nat} {h w : Nat → Rat} {F : Rat} (hP : isP pl n) (hS : SolM I m n pl h w F) {i : Nat} (h0 : 0 < i) (hi : i < n + 1) : RI (rgtF I m i 13) (27720 * (6 * F * d2 (spR pl n) h (i - 1) - sQ (fun p => w p * insQ (xR' pl) (spR pl n) (i - 1) p) 13)) := by
  have := sm_right hP hS (show i - 1 < n by omega) 13 (Nat.le_refl _)
  rw [show i - 1 + 1 = i by omega] at this
  exact this
theorem by_0 {s T : Nat → Rat} {lo hi : Nat} {A B : Int64} (hA : RI A (cH s (lo - 1 + 1))) (hB : RI B (T (hi + 1))) (h1 : 1 ≤ lo) : RI (A * B) (cH s lo * T (hi + 1) * nPr s lo (lo - lo)) := by
  rw [show lo - 1 + 1 = lo by omega] at hA
  refine RI_eq (RI_mul hA hB) ?_
  rw [Nat.sub_self]
  show _ = cH s lo * T (hi + 1) * 1
  grind
theorem nI_npos {n : Nat} : ¬ nI (n + 1) ≤ 0 ∨ 2 ^ 31 ≤ n + 1 := by
  by_cases c : 2 ^ 31 ≤ n + 1
  · exact Or.inr c
  · refine Or.inl (fun q => ?_)
    rw [Int32.le_iff_toInt_le, nI_toInt (by omega)] at q
    have z : (0 : Int32).toInt = 0 := rfl
    omega
theorem k_le2 {v c : Int32} {i n : Nat} (hv : v = nI i) (hc : c = nI n) (hi : i < 2 ^ 31) (hn : n < 2 ^ 31) (h : v ≤ c) : i ≤ n := by
  subst hv; subst hc
  exact (nI_leI hi hn).mp h
theorem k_gt2 {v c : Int32} {i n : Nat} (hv : v = nI i) (hc : c = nI n) (hi : i < 2 ^ 31) (hn : n < 2 ^ 31) (h : ¬ v ≤ c) : n < i := by
  subst hv; subst hc
  rw [nI_leI hi hn] at h
  omega
theorem k_dn2 {v : Int32} {i : Nat} (hv : v = nI i) (h : 1 < i) : v - 2 = nI (i - 2) := by
  rw [hv]
  have e := pk_sub_toInt (a := i) (b := 2)
  obtain ⟨k, rfl⟩ : ∃ k, i = k + 2 := ⟨i - 2, by omega⟩
  have h1 := k_dn1 (v := nI (k + 2)) (i := k + 2) rfl (by omega)
  have h2 := k_dn1 (v := nI (k + 1)) (i := k + 1) rfl (by omega)
  rw [show k + 2 - 1 = k + 1 by omega] at h1
  rw [show k + 2 - 2 = k by omega]
  rw [show k + 1 - 1 = k by omega] at h2
  rw [← h2, ← h1, Int32.sub_eq_add_neg, Int32.sub_eq_add_neg, Int32.sub_eq_add_neg, Int32.add_assoc]
  rfl
theorem k_up2 {v : Int32} {i : Nat} (hv : v = nI i) : v + 2 = nI (i + 2) := by
  rw [hv]
  exact nI_add (a := i) (b := 2)
