/-! the line as numbers, common to class and model; the class's facts; how rest is made ready -/
abbrev LA : Type := Nat × (Nat → Nat) × (Nat → Int) × (Nat → Int) × Int × (Nat → Nat → Int)
abbrev aN (A : LA) : Nat := A.1
abbrev aQ (A : LA) : Nat → Nat := A.2.1
abbrev aO (A : LA) : Nat → Int := A.2.2.1
abbrev aW (A : LA) : Nat → Int := A.2.2.2.1
abbrev aF (A : LA) : Int := A.2.2.2.2.1
abbrev aR (A : LA) : Nat → Nat → Int := A.2.2.2.2.2
def okA (A : LA) : Prop := aN A ≤ 6 ∧ incN (aQ A) (aN A) ∧ (∀ k, k < aN A → -50 ≤ aO A k ∧ aO A k ≤ 50) ∧ (∀ p, p < 13 → 0 ≤ aW A p ∧ aW A p ≤ 50) ∧ 1 ≤ aF A ∧ aF A ≤ 20 ∧ ∀ s, s < 4 → ∀ p, p < 13 → -20 ≤ aR A s p ∧ aR A s p ≤ 20
def hgI (A : LA) (s k : Nat) : Int := aO A k + aR A s (aQ A k)
def hgt (A : LA) (s k : Nat) : Rat := (hgI A s k : Rat)
def wgt (A : LA) (p : Nat) : Rat := (aW A p : Rat)
def stf (A : LA) : Rat := (aF A : Rat)
/-- the class's line is A -/
def CLm (I : IM) (A : LA) : Prop := I 1 0 = nI (aN A) ∧ (∀ k, k < aN A → I 2 k = nI (aQ A k)) ∧ (∀ k, k < aN A → (I 3 k).toInt = aO A k) ∧ (∀ p, p < 13 → (I 6 p).toInt = aW A p) ∧ (I 1 6).toInt = aF A ∧ ∀ s, s < 4 → ∀ p, p < 13 → (I (8 + s) p).toInt = aR A s p
theorem int_inQ {z : Int} {c : Int} (h1 : -c ≤ z) (h2 : z ≤ c) : inQ (z : Rat) (c : Rat) := by
  unfold inQ
  rw [← Rat.intCast_neg]
  exact ⟨Rat.intCast_le_intCast.mpr h1, Rat.intCast_le_intCast.mpr h2⟩
theorem hg_in {A : LA} (a : okA A) {s k : Nat} (hs : s < 4) (hk : k < aN A) : -70 ≤ hgI A s k ∧ hgI A s k ≤ 70 := by
  have h1 := a.2.2.1 k hk
  have h2 := a.2.2.2.2.2.2 s hs (aQ A k) (a.2.1.1 k hk)
  unfold hgI
  omega
theorem ok_w {A : LA} (a : okA A) : (∀ p, p < 13 → 0 ≤ wgt A p ∧ wgt A p ≤ 50) ∧ 1 ≤ stf A ∧ stf A ≤ 20 := by
  refine ⟨fun p hp => ?_, ?_, ?_⟩
  · have h := a.2.2.2.1 p hp
    have h1 := Rat.intCast_le_intCast.mpr h.1
    have h2 := Rat.intCast_le_intCast.mpr h.2
    exact ⟨h1, h2⟩
  · exact Rat.intCast_le_intCast.mpr a.2.2.2.2.1
  · exact Rat.intCast_le_intCast.mpr a.2.2.2.2.2.1
theorem okA_S {A : LA} (a : okA A) {s : Nat} (hs : s < 4) : okS (aQ A) (hgt A s) (wgt A) (stf A) 70 (aN A) := by
  have hw := ok_w a
  refine ⟨by have := a.1; omega, a.2.1, fun b hb => ?_, hw.1, hw.2.1, hw.2.2, by grind, by grind⟩
  have h := hg_in a hs hb
  exact int_inQ h.1 h.2
/-- rest's beam after start -/
theorem rs_start {I I0 : IM} {L : LM} {r : Nat} {W : Nat → Int32} {w : Nat → Rat} {F : Rat} {f : Int32} (hf : RI f.toInt64 F) (hw : carW W 0 13 w) (q : Nat → Nat) (hh : Nat → Rat) (hI : I r 1 = 0) : RestI I (carL (u2 L (r + 1) 5 f.toInt64) (r + 1) 13 (carS W 0 13) (carC W 0 13) (carA W 0 13 13) (carM W 0 13 13)) r 0 q hh w F := by
  refine ⟨hI, fun k hk => absurd hk (Nat.not_lt_zero _), fun k hk => absurd hk (Nat.not_lt_zero _), ?_, ?_, ?_, fun p hp => ?_, fun p hp => ?_⟩
  · unfold carL
    rw [u2_n2 (by decide), u2_n2 (by decide), u1_n (by omega), u1_n (by omega), u2_s]
    exact hf
  · rw [carL_7]
    exact carA_RI hw 13 (by omega)
  · rw [carL_8]
    exact carM_RI hw 13 (by omega)
  · unfold carL
    rw [u2_n1 (by omega), u2_n1 (by omega), show r + 6 = r + 1 + 5 by omega, u1_s, if_pos hp]
    refine RI_eq (carC_RI hw p (by omega)) ?_
    rw [car_cb (by omega)]
  · unfold carL
    rw [u2_n1 (by omega), u2_n1 (by omega), u1_n (by omega), show r + 5 = r + 1 + 4 by omega, u1_s, if_pos hp]
    refine RI_eq (carS_RI hw p (by omega)) ?_
    rw [car_sq (by omega)]
theorem toI64_mul {p : Nat} {x : Int32} (hp : p < 13) (h0 : 0 ≤ x.toInt) (h1 : x.toInt ≤ 50) : (nI p * x).toInt = p * x.toInt := by
  have hm : (p : Int) * x.toInt ≤ 12 * 50 := Int.mul_le_mul (by omega) h1 h0 (by omega)
  have hm0 : 0 ≤ (p : Int) * x.toInt := Int.mul_nonneg (by omega) h0
  rw [Int32.toInt_mul, nI_toInt (by omega)]
  rw [Int.bmod_eq_of_le] <;> omega
theorem cl_car {I : IM} {A : LA} (hm : CLm I A) (a : okA A) : carW (I 6) 0 13 (wgt A) := fun p hp => by
  have e : inFT 0 13 p = true := decide_eq_true ⟨nI_pos (by omega), by
    intro c
    have c : nI 13 ≤ nI p := c
    rw [nI_leI (by omega) (by omega)] at c
    omega⟩
  rw [if_pos e]
  have hw := hm.2.2.2.1 p hp
  have hb := a.2.2.2.1 p hp
  have h1 := RI_32 (I 6 p)
  have h2 := RI_32 (nI p * I 6 p)
  rw [toI64_mul hp (by omega) (by omega), hw, Rat.intCast_mul] at h2
  rw [hw] at h1
  exact ⟨h1, h2⟩
/-- one more bearing -/
theorem rs_put {I : IM} {L : LM} {r n : Nat} {q : Nat → Nat} {hh w : Nat → Rat} {F : Rat} {p v : Int32} (h : RestI I L r n q hh w F) (hp : p = nI (q n)) (hv : (v.toInt : Rat) = hh n) : RestI (u2 (u2 (u2 I (r + 13) n p) (r + 14) n v) r 1 (nI (n + 1))) L r (n + 1) q hh w F := by
  obtain ⟨a1, a2, a3, a4⟩ := h
  refine ⟨u2_s, fun k hk => ?_, fun k hk => ?_, a4⟩
  · rw [u2_n1 (by omega), u2_n1 (by omega)]
    by_cases c : k = n
    · subst c
      rw [u2_s, hp]
    · rw [u2_n2 c]
      exact a2 k (by omega)
  · rw [u2_n1 (by omega)]
    by_cases c : k = n
    · subst c
      rw [u2_s, hv]
    · rw [u2_n2 c, u2_n1 (by omega)]
      exact a3 k (by omega)
/-- bearings put, of the class's line -/
theorem rs_pb {I : IM} {L : LM} {s fr n0 : Nat} {Q q : Nat → Nat} {hh w : Nat → Rat} {F : Rat} : ∀ k, RestI I L 45 n0 q hh w F → (∀ j, j < k → I 2 (fr + j) = nI (q (n0 + j))) → (∀ j, j < k → ((I 3 (fr + j) + I (8 + s) (Q (fr + j))).toInt : Rat) = hh (n0 + j)) → RestI (pbI I s fr n0 Q k) L 45 (n0 + k) q hh w F
  | 0, h, _, _ => by
    have e : I = pbI I s fr n0 Q 0 := pbI_0 h.1
    rw [← e]
    exact h
  | k + 1, h, h1, h2 => by
    have ih := rs_pb k h (fun j hj => h1 j (by omega)) (fun j hj => h2 j (by omega))
    have := rs_put (p := I 2 (fr + k)) (v := I 3 (fr + k) + I (8 + s) (Q (fr + k))) ih (h1 k (by omega)) (h2 k (by omega))
    rw [show (n0 + k) + 1 = n0 + (k + 1) by omega] at this
    have e := pbI_s (I := I) (s := s) (fr := fr) (n0 := n0) (k := k) (q := Q) rfl rfl
    rw [show n0 + k + 1 = n0 + (k + 1) by omega] at e
    rw [e] at this
    exact this
theorem cl_q {I : IM} {A : LA} (hm : CLm I A) (a : okA A) : ∀ k, k < aN A → px_ix (I 2 k) 13 (aQ A k) := fun k hk => k_ix (hm.2.1 k hk) (a.2.1.1 k hk) (by decide)
theorem add_small {x y : Int32} {a b : Int} (hx : x.toInt = a) (hy : y.toInt = b) (h : -1000 ≤ a ∧ a ≤ 1000) (h2 : -1000 ≤ b ∧ b ≤ 1000) : (x + y).toInt = a + b := by
  rw [Int32.toInt_add, hx, hy]
  rw [Int.bmod_eq_of_le] <;> omega
theorem cl_h {I : IM} {A : LA} (hm : CLm I A) (a : okA A) {s k : Nat} (hs : s < 4) (hk : k < aN A) : ((I 3 k + I (8 + s) (aQ A k)).toInt : Rat) = hgt A s k := by
  have h1 := hm.2.2.1 k hk
  have hq := a.2.1.1 k hk
  have h2 := hm.2.2.2.2.2 s hs (aQ A k) hq
  have b1 := a.2.2.1 k hk
  have b2 := a.2.2.2.2.2.2 s hs (aQ A k) hq
  rw [add_small h1 h2 (by omega) (by omega)]
  rfl
/-- what the class's rest may be: of no STATE, or as it lies in one -/
def CRs (I : IM) (L : LM) (A : LA) (s : Nat) : Prop := (I 0 10 = 0 ∧ ∃ c, firC (aN A) (lieC (aN A) (aQ A) (hgt A s) (wgt A) (stf A)) c ∧ RestS I L 45 (aN A) (selC (nI c) (aN A)) (aQ A) (hgt A s) (wgt A) (stf A)) ∨ (I 0 10 = 1 ∧ nonC (aN A) (lieC (aN A) (aQ A) (hgt A s) (wgt A) (stf A)))
def CRest (I : IM) (L : LM) (A : LA) : Prop := I 0 9 = -1 ∨ ∃ s, s < 4 ∧ I 0 9 = nI s ∧ CRs I L A s
/-- frames: rest, its state -/
def frK (I I' : IM) : Prop := ∀ a k, (a < 45 ∨ 60 < a) → (a ≠ 0 ∨ (k ≠ 9 ∧ k ≠ 10)) → I' a k = I a k
def frKL (L L' : LM) : Prop := ∀ a k, (a < 46 ∨ 57 < a) → L' a k = L a k
theorem frK_0 {I : IM} : frK I I := fun _ _ _ _ => rfl
theorem frKL_0 {L : LM} : frKL L L := fun _ _ _ => rfl
theorem frK_t {I I' I'' : IM} (h1 : frK I I') (h2 : frK I' I'') : frK I I'' := fun a k c1 c2 => (h2 a k c1 c2).trans (h1 a k c1 c2)
theorem frKL_t {L L' L'' : LM} (h1 : frKL L L') (h2 : frKL L' L'') : frKL L L'' := fun a k c1 => (h2 a k c1).trans (h1 a k c1)
theorem frK_I {I I' : IM} (h : frI 45 I I') : frK I I' := fun a k c1 c2 => h a k (by omega) (by omega) (by omega) (by omega)
theorem frK_L {L L' : LM} (h : frL 46 L L') : frKL L L' := fun a k c1 => h a k (by omega) (by omega)
theorem frK_pb {I : IM} {s fr n0 k : Nat} {Q : Nat → Nat} : frK I (pbI I s fr n0 Q k) := fun a j c1 c2 => pbI_o (by omega) (by omega) (by omega)
theorem CLm_fr {I I' : IM} {A : LA} (h : CLm I A) (f : ∀ a k, 1 ≤ a → a ≤ 11 → I' a k = I a k) : CLm I' A := by
  obtain ⟨a1, a2, a3, a4, a5, a6⟩ := h
  refine ⟨?_, fun k hk => ?_, fun k hk => ?_, fun p hp => ?_, ?_, fun s hs p hp => ?_⟩
  · rw [f _ _ (by omega) (by omega)]; exact a1
  · rw [f _ _ (by omega) (by omega)]; exact a2 k hk
  · rw [f _ _ (by omega) (by omega)]; exact a3 k hk
  · rw [f _ _ (by omega) (by omega)]; exact a4 p hp
  · rw [f _ _ (by omega) (by omega)]; exact a5
  · rw [f _ _ (by omega) (by omega)]; exact a6 s hs p hp
theorem RestS_fr {I I' : IM} {L L' : LM} {r n : Nat} {s : Nat → Bool} {q : Nat → Nat} {hh w : Nat → Rat} {F : Rat} (h : RestS I L r n s q hh w F) (f : ∀ a k, r ≤ a → a ≤ r + 15 → I' a k = I a k) (g : ∀ a k, r + 1 ≤ a → a ≤ r + 12 → L' a k = L a k) : RestS I' L' r n s q hh w F := by
  have hI : ∀ {k}, I' r k = I r k := f _ _ (by omega) (by omega)
  obtain ⟨⟨b1, b2, b3, b4, b5, b6, b7, b8⟩, a2, a3, a4⟩ := h
  refine ⟨⟨?_, fun k hk => ?_, fun k hk => ?_, ?_, ?_, ?_, fun p hp => ?_, fun p hp => ?_⟩, ?_, fun b hb => ?_, fun h2 => ?_⟩
  · rw [f _ _ (by omega) (by omega)]; exact b1
  · rw [f _ _ (by omega) (by omega)]; exact b2 k hk
  · rw [f _ _ (by omega) (by omega)]; exact b3 k hk
  · rw [g _ _ (by omega) (by omega)]; exact b4
  · rw [g _ _ (by omega) (by omega)]; exact b5
  · rw [g _ _ (by omega) (by omega)]; exact b6
  · rw [g _ _ (by omega) (by omega)]; exact b7 p hp
  · rw [g _ _ (by omega) (by omega)]; exact b8 p hp
  · rw [f _ _ (by omega) (by omega)]; exact a2
  · rw [f _ _ (by omega) (by omega)]; exact a3 b hb
  · obtain ⟨⟨c1, c2, c3, c4, c5, c6, c7⟩, d1, d2, d3⟩ := a4 h2
    refine ⟨⟨fun k hk => ?_, fun k hk => ?_, ?_, ?_, ?_, fun p hp => ?_, fun p hp => ?_⟩, fun i hi => ?_, ?_, ?_⟩
    · rw [f _ _ (by omega) (by omega)]; exact c1 k hk
    · rw [f _ _ (by omega) (by omega)]; exact c2 k hk
    · rw [g _ _ (by omega) (by omega)]; exact c3
    · rw [g _ _ (by omega) (by omega)]; exact c4
    · rw [g _ _ (by omega) (by omega)]; exact c5
    · rw [g _ _ (by omega) (by omega)]; exact c6 p hp
    · rw [g _ _ (by omega) (by omega)]; exact c7 p hp
    · rw [g _ _ (by omega) (by omega)]; exact d1 i hi
    · rw [g _ _ (by omega) (by omega)]; exact d2
    · rw [g _ _ (by omega) (by omega)]; exact d3
/-- the facts of the class with its beams, rest and planner -/
def PlanF (sh : Sh) (R : RM) (b : Nat) : Prop := sh[b]? = some (.inl 3) ∧ sh[b + 1]? = some (.inr (.int, 4)) ∧ sh[b + 2]? = some (.inr (.int, 11)) ∧ sh[b + 3]? = some (.inr (.int, 11)) ∧ sh[b + 4]? = some (.inr (.long, 11)) ∧ sh[b + 5]? = some (.inr (.long, 176)) ∧ sh[b + 6]? = some (.inr (.long, 176)) ∧ sh[b + 7]? = some (.inr (.long, 4)) ∧ sh[b + 8]? = some (.inr (.int, 4)) ∧ sh[b + 9]? = some (.inr (.int, 13)) ∧ R b 1 = some (b + 1) ∧ R b 7 = some (b + 2) ∧ R b 8 = some (b + 3) ∧ R b 9 = some (b + 4) ∧ R b 10 = some (b + 5) ∧ R b 11 = some (b + 6) ∧ R b 12 = some (b + 7) ∧ R b 13 = some (b + 8) ∧ R b 14 = some (b + 9)
def ClsF (sh : Sh) (R : RM) : Prop := ClassF sh R ∧ BeamF sh R 21 ∧ BeamF sh R 33 ∧ RestF sh R 45 ∧ PlanF sh R 61
