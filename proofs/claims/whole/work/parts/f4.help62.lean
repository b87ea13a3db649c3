/-! heights of both sides alike; the model's line; what stands prepares -/
theorem hei_eq {pl : Nat → Nat} {h w : Nat → Rat} {F : Rat} {n f x : Nat} (hP : isP pl n) (hF : F = (f : Rat)) (h1 : 1 ≤ f) : heiQ pl h w F n f x = tzP pl h w F n x / (6 * F * spR pl n 0) := by
  have hs := sp_one hP 0
  have hX : (pl 1 : Rat) = pl 0 + spR pl n 0 := (isP_X hP).2 0 (Nat.zero_le _)
  have hf : (1 : Rat) ≤ (f : Rat) := cast_le h1
  subst hF
  show SP pl h w f n x / (6 * (f : Rat)) + -(SP pl h w f n (pl 0) / (6 * (f : Rat))) + (SP pl h w f n (pl 0) / (6 * (f : Rat)) + -(SP pl h w f n (pl 1) / (6 * (f : Rat))) + (h 1 - h 0)) / spR pl n 0 * ((x : Rat) - pl 0) + h 0 = ((6 * (f : Rat) * h 0 - SP pl h w f n (pl 0)) * ((pl 1 : Rat) - x) + (6 * (f : Rat) * h 1 - SP pl h w f n (pl 1)) * ((x : Rat) - pl 0) + spR pl n 0 * SP pl h w f n x) / (6 * (f : Rat) * spR pl n 0)
  generalize SP pl h w f n x = Sx
  generalize SP pl h w f n (pl 0) = S0
  generalize SP pl h w f n (pl 1) = S1
  generalize spR pl n 0 = s at *
  generalize (pl 0 : Rat) = a at *
  generalize (pl 1 : Rat) = b at *
  generalize (x : Rat) = y at *
  generalize (f : Rat) = g at *
  subst hX
  have n1 : s ≠ 0 := by grind
  have n2 : g ≠ 0 := by grind
  have n3 : 6 * g ≠ 0 := by grind
  have n4 : 6 * g * s ≠ 0 := by grind
  grind
theorem slo_eq {pl : Nat → Nat} {h w : Nat → Rat} {F : Rat} {n f x : Nat} (hP : isP pl n) (hF : F = (f : Rat)) (h1 : 1 ≤ f) : sloQ pl h w F n f x = slP pl h w F n x / (6 * F * spR pl n 0) := by
  have hs := sp_one hP 0
  have hf : (1 : Rat) ≤ (f : Rat) := cast_le h1
  subst hF
  unfold sloQ
  rw [smV_3]
  show 3 * QP pl h w f n x / (6 * (f : Rat)) + (SP pl h w f n (pl 0) / (6 * (f : Rat)) + -(SP pl h w f n (pl 1) / (6 * (f : Rat))) + (h 1 - h 0)) / spR pl n 0 = ((6 * (f : Rat) * h 1 - SP pl h w f n (pl 1)) - (6 * (f : Rat) * h 0 - SP pl h w f n (pl 0)) + 3 * spR pl n 0 * QP pl h w f n x) / (6 * (f : Rat) * spR pl n 0)
  generalize QP pl h w f n x = Qx
  generalize SP pl h w f n (pl 0) = S0
  generalize SP pl h w f n (pl 1) = S1
  generalize spR pl n 0 = s at *
  generalize (f : Rat) = g at *
  have n1 : s ≠ 0 := by grind
  have n2 : g ≠ 0 := by grind
  have n3 : 6 * g ≠ 0 := by grind
  have n4 : 6 * g * s ≠ 0 := by grind
  grind
/-- the model's line that stands: OFFSETS with what is moved -/
def MSm (I : IM) (m : Nat) (A : LA) : Prop := I m 0 = nI (aN A) ∧ (∀ k, k < aN A → I (m + 1) k = nI (aQ A k)) ∧ (∀ k, k < aN A → (I (m + 2) k + I (m + 22) k).toInt = aO A k) ∧ (∀ p, p < 13 → (I (m + 5) p).toInt = aW A p) ∧ (I m 7).toInt = aF A ∧ ∀ s, s < 4 → ∀ p, p < 13 → (I (m + 6) (13 * s + p)).toInt = aR A s p
/-- candidates, weights, STIFFNESS made ready -/
def CnM (I : IM) (m n : Nat) (q : Nat → Nat) (hh w : Nat → Rat) (F : Rat) : Prop := I m 32 = nI n ∧ (∀ k, k < n → I (m + 20) k = nI (q k)) ∧ (∀ k, k < n → ((I (m + 21) k).toInt : Rat) = hh k ∧ -1000 ≤ (I (m + 21) k).toInt ∧ (I (m + 21) k).toInt ≤ 1000) ∧ (∀ p, p < 13 → ((I (m + 13) p).toInt : Rat) = w p) ∧ ((I m 7).toInt : Rat) = F
def frSt (m : Nat) (I I' : IM) : Prop := ∀ a k, (a ≠ m ∨ (k ≠ 32 ∧ k ≠ 36)) → a ≠ m + 13 → a ≠ m + 20 → a ≠ m + 21 → I' a k = I a k
theorem frSt_0 {m : Nat} {I : IM} : frSt m I I := fun _ _ _ _ _ _ => rfl
theorem frSt_t {m : Nat} {I I' I'' : IM} (h1 : frSt m I I') (h2 : frSt m I' I'') : frSt m I I'' := fun a k c1 c2 c3 c4 => (h2 a k c1 c2 c3 c4).trans (h1 a k c1 c2 c3 c4)
theorem frSt_u {m c k : Nat} {I I' : IM} {x : Int32} (h : frSt m I I') (hc : (c = m ∧ (k = 32 ∨ k = 36)) ∨ c = m + 13 ∨ c = m + 20 ∨ c = m + 21) : frSt m I (u2 I' c k x) := fun a j q1 q2 q3 q4 => by
  unfold u2
  rw [if_neg (by omega)]
  exact h a j q1 q2 q3 q4
theorem MSm_St {m : Nat} {I I' : IM} {A : LA} (h : MSm I m A) (f : frSt m I I') : MSm I' m A := by
  obtain ⟨a1, a2, a3, a4, a5, a6⟩ := h
  refine ⟨?_, fun k hk => ?_, fun k hk => ?_, fun p hp => ?_, ?_, fun s hs p hp => ?_⟩
  · rw [f m 0 (by omega) (by omega) (by omega) (by omega)]; exact a1
  · rw [f _ _ (by omega) (by omega) (by omega) (by omega)]; exact a2 k hk
  · rw [f _ _ (by omega) (by omega) (by omega) (by omega), f _ _ (by omega) (by omega) (by omega) (by omega)]; exact a3 k hk
  · rw [f _ _ (by omega) (by omega) (by omega) (by omega)]; exact a4 p hp
  · rw [f m 7 (by omega) (by omega) (by omega) (by omega)]; exact a5
  · rw [f _ _ (by omega) (by omega) (by omega) (by omega)]; exact a6 s hs p hp
/-- who is to stand at a place: a bearing, the jack, nobody -/
def hitP (A : LA) (p : Nat) : Prop := ∃ b, b < aN A ∧ aQ A b = p
def stdQ (A : LA) (st : Nat) (jp jh : Int32) (n : Nat) (q : Nat → Nat) (hh : Nat → Rat) (jn : Int32) : Prop := incN q n ∧ n ≤ 7 ∧ ∀ p, p < 13 →
  (∀ b, b < aN A → aQ A b = p → ∃ k, k < n ∧ q k = p ∧ hh k = hgt A st b) ∧
  (¬ hitP A p → nI p = jp → ∃ k, k < n ∧ q k = p ∧ hh k = (jh.toInt : Rat) ∧ jn = nI k) ∧
  (¬ hitP A p → ¬ nI p = jp → ∀ k, k < n → q k ≠ p)
theorem cnt_hit {q : Nat → Nat} {n k p : Nat} (h : incN q n) (hk : k < n) (e : q k = p) : cntN q p n = k ∧ cntN q (p + 1) n = k + 1 := by
  have h1 := cntN_inc (p := p) h n (Nat.le_refl n)
  have h2 := cntN_inc (p := p + 1) h n (Nat.le_refl n)
  have l1 := cntN_le (f := q) (p := p) n
  have l2 := cntN_le (f := q) (p := p + 1) n
  refine ⟨?_, ?_⟩
  · have a := h1 k hk
    rcases Nat.lt_or_ge (cntN q p n) k with c | c
    · have b := (h1 (cntN q p n) (by omega))
      have d := incN_l h c hk
      omega
    · omega
  · have a := h2 k hk
    rcases Nat.lt_or_ge (k + 1) (cntN q (p + 1) n) with c | c
    · have b := (h2 (k + 1) (by omega))
      have d := h.2 k (by omega)
      omega
    · omega
theorem cnt_no {q : Nat → Nat} {p : Nat} : ∀ n, (∀ k, k < n → q k ≠ p) → cntN q (p + 1) n = cntN q p n
  | 0, _ => rfl
  | n + 1, h => by
    simp only [cntN, cnt_no n (fun k hk => h k (by omega))]
    have := h n (by omega)
    have e : (q n < p + 1) = (q n < p) := propext ⟨fun _ => by omega, fun _ => by omega⟩
    simp only [e]
theorem cnt_00 {q : Nat → Nat} : ∀ n, cntN q 0 n = 0
  | 0 => rfl
  | n + 1 => by simp only [cntN, cnt_00 n, Nat.not_lt_zero, if_false]
theorem cnt_13 {q : Nat → Nat} {n : Nat} (h : incN q n) : cntN q 13 n = n := by
  have h1 := cntN_inc (p := 13) h n (Nat.le_refl n)
  have l1 := cntN_le (f := q) (p := 13) n
  rcases Nat.lt_or_ge (cntN q 13 n) n with c | c
  · have a := h1 (cntN q 13 n) c
    have b := h.1 (cntN q 13 n) c
    omega
  · omega
/-- within stands: ahead of place p -/
def stI (I I2 : IM) (m : Nat) (A : LA) (jp : Int32) (n : Nat) (q : Nat → Nat) (hh : Nat → Rat) (jn : Int32) (p : Nat) : Prop := frSt m I I2 ∧ I2 m 32 = nI (cntN q p n) ∧ (∀ k, k < cntN q p n → I2 (m + 20) k = nI (q k)) ∧ (∀ k, k < cntN q p n → ((I2 (m + 21) k).toInt : Rat) = hh k ∧ -1000 ≤ (I2 (m + 21) k).toInt ∧ (I2 (m + 21) k).toInt ≤ 1000) ∧ (∀ r, r < p → I2 (m + 13) r = I (m + 5) r) ∧ ∀ r, r < p → ¬ hitP A r → nI r = jp → I2 m 36 = jn
theorem stI_0 {I : IM} {m : Nat} {A : LA} {jp jn : Int32} {n : Nat} {q : Nat → Nat} {hh : Nat → Rat} : stI I (u2 (u2 I m 32 0) m 36 (-4)) m A jp n q hh jn 0 := by
  refine ⟨frSt_u (frSt_u frSt_0 (by omega)) (by omega), ?_, fun k hk => ?_, fun k hk => ?_, fun r hr => absurd hr (Nat.not_lt_zero _), fun r hr => absurd hr (Nat.not_lt_zero _)⟩
  · rw [cnt_00, u2_n2 (by decide), u2_s]
    rfl
  · rw [cnt_00] at hk
    exact absurd hk (Nat.not_lt_zero _)
  · rw [cnt_00] at hk
    exact absurd hk (Nat.not_lt_zero _)
section SS
variable {I I2 : IM} {m : Nat} {A : LA} {jp jh jn : Int32} {st n p : Nat} {q : Nat → Nat} {hh : Nat → Rat}
/-- nobody at p -/
theorem stI_n (hq : stdQ A st jp jh n q hh jn) (hp : p < 13) (h : stI I I2 m A jp n q hh jn p) (h1 : ¬ hitP A p) (h2 : ¬ nI p = jp) {x : Int32} (hx : x = I (m + 5) p) : stI I (u2 I2 (m + 13) p x) m A jp n q hh jn (p + 1) := by
  obtain ⟨f, g1, g2, g3, g4, g5⟩ := h
  have ec := cnt_no n ((hq.2.2 p hp).2.2 h1 h2)
  refine ⟨frSt_u f (by omega), ?_, ?_, ?_, fun r hr => ?_, fun r hr c1 c2 => ?_⟩
  · rw [ec, u2_n1 (by omega)]; exact g1
  · rw [ec]; intro k hk; rw [u2_n1 (by omega)]; exact g2 k hk
  · rw [ec]; intro k hk; rw [u2_n1 (by omega)]; exact g3 k hk
  · by_cases e : r = p
    · rw [e, u2_s, hx]
    · rw [u2_n2 e]; exact g4 r (by omega)
  · by_cases e : r = p
    · rw [e] at c2; exact absurd c2 h2
    · rw [u2_n1 (by omega)]; exact g5 r (by omega) c1 c2
/-- someone at p -/
theorem stI_y (hq : stdQ A st jp jh n q hh jn) (hp : p < 13) (h : stI I I2 m A jp n q hh jn p) {k : Nat} (hk : k < n) (e : q k = p) {x v j : Int32} (hx : x = I (m + 5) p) (hv : (v.toInt : Rat) = hh k ∧ -1000 ≤ v.toInt ∧ v.toInt ≤ 1000) (hj : (hitP A p ∧ j = I2 m 36) ∨ (¬ hitP A p ∧ j = jn)) {cp ch z : Int32} {ci : Nat} (hci : ci = k) (hcp : cp = nI p) (hz : z = nI (k + 1)) (hch : ch = v) : stI I (u2 (u2 (u2 (u2 (u2 I2 (m + 13) p x) (m + 20) ci cp) (m + 21) ci ch) m 36 j) m 32 z) m A jp n q hh jn (p + 1) := by
  obtain ⟨f, g1, g2, g3, g4, g5⟩ := h
  subst hci; subst hcp; subst hz; subst hch
  obtain ⟨c0, c1⟩ := cnt_hit hq.1 hk e
  rw [c0] at g1 g2 g3
  refine ⟨frSt_u (frSt_u (frSt_u (frSt_u (frSt_u f (by omega)) (by omega)) (by omega)) (by omega)) (by omega), ?_, ?_, ?_, fun r hr => ?_, fun r hr d1 d2 => ?_⟩
  · rw [c1, u2_s]
  · rw [c1]; intro i hi
    rw [u2_n1 (by omega), u2_n1 (by omega), u2_n1 (by omega)]
    by_cases d : i = ci
    · rw [d, u2_s, e]
    · rw [u2_n2 d, u2_n1 (by omega)]; exact g2 i (by omega)
  · rw [c1]; intro i hi
    rw [u2_n1 (by omega), u2_n1 (by omega)]
    by_cases d : i = ci
    · rw [d, u2_s]; exact hv
    · rw [u2_n2 d, u2_n1 (by omega), u2_n1 (by omega)]; exact g3 i (by omega)
  · rw [u2_n1 (by omega), u2_n1 (by omega), u2_n1 (by omega), u2_n1 (by omega)]
    by_cases d : r = p
    · rw [d, u2_s, hx]
    · rw [u2_n2 d]; exact g4 r (by omega)
  · rw [u2_n2 (by decide), u2_s]
    rcases hj with ⟨e1, e2⟩ | ⟨e1, e2⟩
    · by_cases d : r = p
      · rw [d] at d1; exact absurd e1 d1
      · rw [e2]; exact g5 r (by omega) d1 d2
    · exact e2
theorem stI_end (hq : stdQ A st jp jh n q hh jn) (hm : MSm I m A) (h : stI I I2 m A jp n q hh jn 13) : frSt m I I2 ∧ CnM I2 m n q hh (wgt A) (stf A) ∧ (∀ p, p < 13 → ¬ hitP A p → nI p = jp → I2 m 36 = jn) := by
  obtain ⟨f, g1, g2, g3, g4, g5⟩ := h
  rw [cnt_13 hq.1] at g1 g2 g3
  refine ⟨f, ⟨g1, g2, g3, fun p hp => ?_, ?_⟩, g5⟩
  · rw [g4 p hp, hm.2.2.2.1 p hp]
    rfl
  · rw [f m 7 (by omega) (by omega) (by omega) (by omega), hm.2.2.2.2.1]
    rfl
end SS
/-- a bearing's height -/
theorem ms_h {I : IM} {m : Nat} {A : LA} (hm : MSm I m A) (a : okA A) {s k : Nat} (hs : s < 4) (hk : k < aN A) : ((I (m + 2) k + I (m + 22) k + I (m + 6) (13 * s + aQ A k)).toInt : Rat) = hgt A s k ∧ -1000 ≤ (I (m + 2) k + I (m + 22) k + I (m + 6) (13 * s + aQ A k)).toInt ∧ (I (m + 2) k + I (m + 22) k + I (m + 6) (13 * s + aQ A k)).toInt ≤ 1000 := by
  have h1 := hm.2.2.1 k hk
  have hq := a.2.1.1 k hk
  have h2 := hm.2.2.2.2.2 s hs (aQ A k) hq
  have b1 := a.2.2.1 k hk
  have b2 := a.2.2.2.2.2.2 s hs (aQ A k) hq
  rw [add_small h1 h2 (by omega) (by omega)]
  refine ⟨rfl, by omega, by omega⟩
/-- the line alone -/
theorem std_A {A : LA} (a : okA A) (st : Nat) (jh jn : Int32) : stdQ A st (-1) jh (aN A) (aQ A) (hgt A st) jn := by
  have h6 := a.1
  refine ⟨a.2.1, by omega, fun p hp => ⟨fun b hb e => ⟨b, hb, e, rfl⟩, fun _ e => ?_, fun h _ k hk e => h ⟨k, hk, e⟩⟩⟩
  have := congrArg Int32.toInt e
  rw [nI_toInt (by omega)] at this
  have z : (-1 : Int32).toInt = -1 := rfl
  omega
/-- with a jack -/
theorem std_J {A : LA} (a : okA A) {st p0 : Nat} {v : Int32} (hno : ∀ k, k < aN A → aQ A k ≠ p0) (hp0 : p0 < 13) : stdQ A st (nI p0) v (aN A + 1) (jkQ A p0) (jkH A st p0 v.toInt) (nI (jkM A p0)) := by
  have h6 := a.1
  have hM : jkM A p0 ≤ aN A := cntN_le _
  have hin : incN (jkQ A p0) (aN A + 1) := by
    have hc : ∀ j, j < aN A → (aQ A j < p0 ↔ j < jkM A p0) := fun j hj => cntN_inc (p := p0) a.2.1 (aN A) (Nat.le_refl _) j hj
    refine ⟨fun k hk => ?_, fun k hk => ?_⟩
    · unfold jkQ
      rcases Nat.lt_trichotomy k (jkM A p0) with c | c | c
      · rw [insG_lt c]; exact a.2.1.1 k (by omega)
      · rw [c, insG_m]; exact hp0
      · rw [insG_gt c]; exact a.2.1.1 (k - 1) (by omega)
    · unfold jkQ
      rcases Nat.lt_trichotomy (k + 1) (jkM A p0) with c | c | c
      · rw [insG_lt c, insG_lt (by omega)]; exact a.2.1.2 k (by omega)
      · rw [c, insG_m, insG_lt (by omega)]; exact (hc k (by omega)).mpr (by omega)
      · rw [insG_gt c, show k + 1 - 1 = k from rfl]
        by_cases e : k = jkM A p0
        · rw [e, insG_m]
          have h1 := hc (jkM A p0) (by omega)
          have h2 := hno (jkM A p0) (by omega)
          have : ¬ aQ A (jkM A p0) < p0 := fun d => by have := h1.mp d; omega
          omega
        · rw [insG_gt (by omega)]
          have := a.2.1.2 (k - 1) (by omega)
          rw [show k - 1 + 1 = k by omega] at this
          exact this
  refine ⟨hin, by omega, fun p hp => ⟨fun b hb e => ?_, fun _ e => ?_, fun h e k hk => ?_⟩⟩
  · rcases Nat.lt_or_ge b (jkM A p0) with c | c
    · exact ⟨b, by omega, by unfold jkQ; rw [insG_lt c]; exact e, by unfold jkH; rw [insG_lt c]⟩
    · exact ⟨b + 1, by omega, by unfold jkQ; rw [insG_gt (by omega)]; exact e, by unfold jkH; rw [insG_gt (by omega)]; rfl⟩
  · have e := (nI_eq (by omega) (by omega)).mp e
    subst e
    exact ⟨jkM A p, by omega, by unfold jkQ; rw [insG_m], by unfold jkH; rw [insG_m], rfl⟩
  · have e : p ≠ p0 := fun q => e (by rw [q])
    unfold jkQ
    rcases Nat.lt_trichotomy k (jkM A p0) with c | c | c
    · rw [insG_lt c]; exact fun q => h ⟨k, by omega, q⟩
    · rw [c, insG_m]; omega
    · rw [insG_gt c]; exact fun q => h ⟨k - 1, by omega, q⟩
def stdP (sh : Sh) (I : IM) (L : LM) (R : RM) (m n : Nat) (A : LA) (q : Nat → Nat) (hh : Nat → Rat) (jp jn : Int32) : PPost := fun ret sh' I' L' R' => ret = none ∧ sh' = sh ∧ R' = R ∧ L' = L ∧ frSt m I I' ∧ CnM I' m n q hh (wgt A) (stf A) ∧ (∀ p, p < 13 → ¬ hitP A p → nI p = jp → I' m 36 = jn)
theorem ba_some {I : IM} {m p i : Nat} {A : LA} (hm : MSm I m A) (a : okA A) (hp : p < 13) (h : srch (I (m + 1)) (nI p) (aN A) = some i) : i < aN A ∧ aQ A i = p := by
  have h1 := srch_some h
  have h2 := hm.2.1 i h1.1
  have h3 := a.2.1.1 i h1.1
  rw [h2] at h1
  exact ⟨h1.1, (nI_eq (by omega) (by omega)).mp h1.2⟩
theorem ba_none {I : IM} {m p : Nat} {A : LA} (hm : MSm I m A) (h : srch (I (m + 1)) (nI p) (aN A) = none) : ¬ hitP A p := fun ⟨b, hb, e⟩ => by
  have := srch_none h b hb
  rw [hm.2.1 b hb, e] at this
  exact this rfl
theorem ba_ge {I : IM} {m p : Nat} {A : LA} {v : Int32} (hm : MSm I m A) (a : okA A) (hp : p < 13) (ev : v = sIdx (srch (I (m + 1)) (nI p) (aN A)) (-4)) (h : 0 ≤ v) : ∃ b, b < aN A ∧ aQ A b = p ∧ v = nI b := by
  cases e : srch (I (m + 1)) (nI p) (aN A) with
  | none =>
    rw [e] at ev
    rw [ev] at h
    exact absurd h (by decide)
  | some i =>
    rw [e] at ev
    have := ba_some hm a hp e
    exact ⟨i, this.1, this.2, ev⟩
theorem ba_lt {I : IM} {m p : Nat} {A : LA} {v : Int32} (hm : MSm I m A) (h6 : aN A ≤ 6) (ev : v = sIdx (srch (I (m + 1)) (nI p) (aN A)) (-4)) (h : ¬ 0 ≤ v) : ¬ hitP A p := by
  cases e : srch (I (m + 1)) (nI p) (aN A) with
  | none => exact ba_none hm e
  | some i =>
    rw [e] at ev
    have := (srch_some e).1
    exact absurd (by rw [ev]; exact nI_ge0 (by omega)) h
theorem stI_y2 {I I2 I3 I4 I5 : IM} {m : Nat} {A : LA} {jp jh jn : Int32} {st n p : Nat} {q : Nat → Nat} {hh : Nat → Rat} (hq : stdQ A st jp jh n q hh jn) (hp : p < 13) (h : stI I I2 m A jp n q hh jn p) {k : Nat} (hk : k < n) (e : q k = p) {v j : Int32} (hv : (v.toInt : Rat) = hh k ∧ -1000 ≤ v.toInt ∧ v.toInt ≤ 1000) (hj : (hitP A p ∧ j = I2 m 36) ∨ (¬ hitP A p ∧ j = jn)) {cp z : Int32} (e3 : I3 = u2 I2 (m + 13) p (I2 (m + 5) p)) (e4 : I4 = u2 I3 (m + 20) k cp) (e5 : I5 = u2 I4 (m + 21) k v) (hcp : cp = nI p) (hz : z = nI (k + 1)) : stI I (u2 (u2 I5 m 36 j) m 32 z) m A jp n q hh jn (p + 1) := by
  subst e5; subst e4; subst e3
  exact stI_y hq hp h hk e (h.1 _ _ (by omega) (by omega) (by omega) (by omega)) hv hj rfl hcp hz rfl
