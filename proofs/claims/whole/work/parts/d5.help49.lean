def mqM (pl : Nat → Nat) (h w : Nat → Rat) (F : Rat) (n i : Nat) : Rat := momQ (xR' pl) (spR pl n) h w (tlQ (spR pl n) n) F n i
def pbF (w : Nat → Rat) (a b p : Nat) : Rat := if a < p then w p * ((b : Rat) - p) else 0
def pfF (w : Nat → Rat) (a b p : Nat) : Rat := if a < p then -w p * ((p : Rat) - a) else 0
theorem sQ_c {c : Rat} : ∀ n : Nat, sQ (fun _ => c) n = (n : Rat) * c
  | 0 => by simp only [sQ]; grind
  | n + 1 => by
    have := sQ_c (c := c) n
    simp only [sQ]
    rw [this, Rat.natCast_add]
    have e : ((1 : Nat) : Rat) = 1 := rfl
    rw [e]
    grind
theorem sQ_in {f : Nat → Rat} {c : Rat} {n : Nat} (hn : n ≤ 13) (hc : 0 ≤ c) (h : ∀ p, p < n → inQ (f p) c) : inQ (sQ f n) (13 * c) := by
  have := inQ_sum (f := f) (g := fun _ => c) (n := n) h
  rw [sQ_c] at this
  refine inQ_le this ?_
  exact Rat.mul_le_mul_of_nonneg_right (cast_le hn) hc
theorem pb_in {w : Nat → Rat} {a b p : Nat} (hw : ∀ p, p < 13 → 0 ≤ w p ∧ w p ≤ 50) (hb : b ≤ 12) (hp : p ≤ 12) (ha : a ≤ 12) : inQ (pbF w a b p) 600 ∧ inQ (pfF w a b p) 600 := by
  have h1 := hw p (by omega)
  have c0 : (0 : Rat) ≤ (p : Rat) := cast_le (Nat.zero_le p)
  have c1 : (p : Rat) ≤ 12 := cast_le hp
  have c2 : (0 : Rat) ≤ (b : Rat) := cast_le (Nat.zero_le b)
  have c3 : (b : Rat) ≤ 12 := cast_le hb
  have c4 : (0 : Rat) ≤ (a : Rat) := cast_le (Nat.zero_le a)
  have c5 : (a : Rat) ≤ 12 := cast_le ha
  have w1 : inQ (w p) 50 := by unfold inQ; grind
  have w2 : inQ (-w p) 50 := by unfold inQ; grind
  have d1 : inQ ((b : Rat) - p) 12 := by unfold inQ; grind
  have d2 : inQ ((p : Rat) - a) 12 := by unfold inQ; grind
  unfold pbF pfF
  refine ⟨?_, ?_⟩
  · split
    · exact inQ_le (inQ_mul w1 d1) (by grind)
    · exact inQ_0 (by grind)
  · split
    · exact inQ_le (inQ_mul w2 d2) (by grind)
    · exact inQ_0 (by grind)
section PU
variable {I : IM} {L : LM} {m n : Nat} {pl : Nat → Nat} {h w : Nat → Rat} {F H : Rat}
theorem mq_in (hB : okB pl h w F H n) {i : Nat} (hi : i ≤ n + 1) : inQ (mqM pl h w F n i) 33300 := by
  have := mom_in (okN hB) (tl_ok _ _) hi
  refine inQ_le this ?_
  have := hB.2.2.2.2.2
  unfold KN
  grind
theorem mm_mq {i : Nat} : momM pl h w F n i = 27720 * cH (spR pl n) (n + 1) * mqM pl h w F n i := rfl
/-- the two fractions that pushes adds -/
def pT1 (pl : Nat → Nat) (h w : Nat → Rat) (F : Rat) (n k : Nat) : Rat := (mqM pl h w F n (k + 1) - mqM pl h w F n k) / spR pl n k
theorem spR_in (hP : isP pl n) (k : Nat) : spR pl n k = ((spP pl n k : Nat) : Rat) ∧ 1 ≤ spR pl n k ∧ spR pl n k ≤ 12 := ⟨rfl, sp_one hP k, cast_le (sp_le12 hP k).2⟩
theorem dv_in {q s c : Rat} (h : inQ q c) (hs : 1 ≤ s) (hc : 0 ≤ c) : inQ (q / s) c := by
  have hp : 0 < s := by grind
  have e : q = (q / s) * s := by grind
  unfold inQ at *
  generalize hg : q / s = t at *
  rw [e] at h
  constructor
  · apply Classical.byContradiction
    intro g
    have g : t < -c := Rat.not_le.mp g
    have := Rat.mul_lt_mul_of_pos_right g hp
    have := Rat.mul_le_mul_of_nonneg_left hs hc
    grind
  · apply Classical.byContradiction
    intro g
    have g : c < t := Rat.not_le.mp g
    have := Rat.mul_lt_mul_of_pos_right g hp
    have := Rat.mul_le_mul_of_nonneg_left hs hc
    grind
theorem pT1_in (hB : okB pl h w F H n) {k : Nat} (hk : k < n + 1) : inQ (pT1 pl h w F n k) 66600 := by
  refine dv_in (inQ_le (inQ_sub (mq_in hB (by omega)) (mq_in hB (by omega))) (by grind)) (spR_in hB.1 k).2.1 (by grind)
theorem pu_b (hP : isP pl n) (hd : RI (L m 29) (cH (spR pl n) (n + 1))) {v : Int64} {k : Nat} (hv : v.toInt = (spP pl n k : Int)) : (v * 27720 * L m 29).toInt = ((27720 * dtN pl n * spP pl n k : Nat) : Int) := by
  obtain ⟨e, h1, h2⟩ := dt_ok hP
  obtain ⟨e2, h3, h4⟩ := spR_in hP k
  rw [e] at hd
  have hv2 := RI_64 v
  rw [hv, Rat.intCast_natCast] at hv2
  have hr := RI_mul (RI_mul hv2 RI_27720) hd
  have c1 : ((dtN pl n : Nat) : Rat) ≤ 35784 := cast_le h2
  have c0 : (0 : Rat) ≤ ((dtN pl n : Nat) : Rat) := cast_le (Nat.zero_le _)
  rw [e2] at h3 h4
  have i1 : inQ ((spP pl n k : Nat) : Rat) 12 := by unfold inQ; grind
  have i2 : inQ ((dtN pl n : Nat) : Rat) 35784 := by unfold inQ; grind
  have i3 : inQ (27720 : Rat) 27720 := by unfold inQ; grind
  have := RI_get hr (inQ_le (inQ_mul (inQ_mul i1 i3) i2) (by grind))
  apply Rat.intCast_inj.mp
  rw [this, Rat.intCast_natCast, Rat.natCast_mul, Rat.natCast_mul]
  have e3 : ((27720 : Nat) : Rat) = 27720 := rfl
  rw [e3]
  grind
theorem pu_a (hB : okB pl h w F H n) (hmo : ∀ i, i < n + 2 → RI (L (m + 16) i) (momM pl h w F n i)) (hd : RI (L m 29) (cH (spR pl n) (n + 1))) {v sg : Int64} {σ : Rat} {k : Nat} (hs : RI sg σ) (hσ : σ = 1 ∨ σ = -1) (hv : v.toInt = (spP pl n k : Int)) (hk : k < n + 1) : ((sg * (L (m + 16) (k + 1) - L (m + 16) k)).toInt : Rat) = (σ * pT1 pl h w F n k) * ((v * 27720 * L m 29).toInt : Rat) := by
  obtain ⟨e, h1, h2⟩ := dt_ok hB.1
  obtain ⟨e2, h3, h4⟩ := spR_in hB.1 k
  rw [pu_b hB.1 hd hv]
  have hr := RI_mul hs (RI_sub (hmo (k + 1) (by omega)) (hmo k (by omega)))
  rw [mm_mq, mm_mq] at hr
  have c1 : ((dtN pl n : Nat) : Rat) ≤ 35784 := cast_le h2
  have c0 : (0 : Rat) ≤ ((dtN pl n : Nat) : Rat) := cast_le (Nat.zero_le _)
  have i0 : inQ (27720 * cH (spR pl n) (n + 1)) (27720 * 35784) := by rw [e]; unfold inQ; grind
  have i1 : inQ σ 1 := by unfold inQ; rcases hσ with g | g <;> rw [g] <;> grind
  have b1 := mq_in hB (show k + 1 ≤ n + 1 by omega)
  have b0 := mq_in hB (show k ≤ n + 1 by omega)
  rw [RI_get hr (inQ_le (inQ_mul i1 (inQ_sub (inQ_mul i0 b1) (inQ_mul i0 b0))) (by grind))]
  unfold pT1
  have hn : spR pl n k ≠ 0 := by grind
  rw [Rat.intCast_natCast, Rat.natCast_mul, Rat.natCast_mul, ← e, ← e2]
  have e3 : ((27720 : Nat) : Rat) = 27720 := rfl
  rw [e3]
  generalize spR pl n k = s at *
  generalize cH (spR pl n) (n + 1) = c at *
  generalize mqM pl h w F n (k + 1) = x at *
  generalize mqM pl h w F n k = y at *
  have : (x - y) / s * s = x - y := by grind
  grind
theorem pu_c {v sm sg : Int64} {σ S : Rat} {k : Nat} (hP : isP pl n) (hv : v.toInt = (spP pl n k : Int)) (hs : RI sg σ) (hσ : σ = 1 ∨ σ = -1) (hsm : RI sm S) (hS : inQ S 7800) : ((sg * sm).toInt : Rat) = (σ * (S / spR pl n k)) * (v.toInt : Rat) := by
  obtain ⟨e2, h3, h4⟩ := spR_in hP k
  have i1 : inQ σ 1 := by unfold inQ; rcases hσ with g | g <;> rw [g] <;> grind
  rw [RI_get (RI_mul hs hsm) (inQ_le (inQ_mul i1 hS) (by grind)), hv, Rat.intCast_natCast, ← e2]
  have hn : spR pl n k ≠ 0 := by grind
  grind
end PU
