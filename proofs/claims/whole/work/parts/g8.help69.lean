/-! PLANS of the model -/
/-- the model's line -/
def MLn (I : IM) (m : Nat) (A : LA) : Prop := I m 0 = nI (aN A) ∧ (∀ k, k < aN A → I (m + 1) k = nI (aQ A k)) ∧ (∀ k, k < aN A → (I (m + 2) k).toInt = aO A k) ∧ (∀ p, p < 13 → (I (m + 5) p).toInt = aW A p) ∧ (I m 7).toInt = aF A ∧ ∀ s, s < 4 → ∀ p, p < 13 → (I (m + 6) (13 * s + p)).toInt = aR A s p
def frMP (m : Nat) (I I' : IM) : Prop := ∀ a k, (a ≠ m ∨ (k ≠ 19 ∧ k ≠ 32 ∧ k ≠ 36)) → a ≠ m + 11 → a ≠ m + 12 → a ≠ m + 13 → a ≠ m + 20 → a ≠ m + 21 → a ≠ m + 22 → a ≠ m + 23 → I' a k = I a k
theorem frMP_0 {m : Nat} {I : IM} : frMP m I I := fun _ _ _ _ _ _ _ _ _ _ => rfl
theorem frMP_M {m : Nat} {I I' : IM} (h : frMI m I I') : frMP m I I' := fun a k c1 c2 c3 c4 c5 c6 _ _ => h a k c1 c2 c3 c4 c5 c6
theorem frMP_t {m : Nat} {I I' I'' : IM} (h1 : frMP m I I') (h2 : frMP m I' I'') : frMP m I I'' := fun a k c1 c2 c3 c4 c5 c6 c7 c8 => (h2 a k c1 c2 c3 c4 c5 c6 c7 c8).trans (h1 a k c1 c2 c3 c4 c5 c6 c7 c8)
theorem frMP_22 {m : Nat} {I I' I'' : IM} (h1 : frMP m I I') (h2 : ∀ a k, a ≠ m + 22 → I'' a k = I' a k) : frMP m I I'' := fun a k c1 c2 c3 c4 c5 c6 c7 c8 => (h2 a k c7).trans (h1 a k c1 c2 c3 c4 c5 c6 c7 c8)
theorem frMP_23 {m : Nat} {I I' I'' : IM} (h1 : frMP m I I') (h2 : ∀ a k, a ≠ m + 23 → I'' a k = I' a k) : frMP m I I'' := fun a k c1 c2 c3 c4 c5 c6 c7 c8 => (h2 a k c8).trans (h1 a k c1 c2 c3 c4 c5 c6 c7 c8)
theorem LHm_MP {m : Nat} {I I' : IM} {lo hi : Int} (h : LHm I m lo hi) (f : frMP m I I') : LHm I' m lo hi := by
  unfold LHm at *
  rw [f m 37 (by omega) (by omega) (by omega) (by omega) (by omega) (by omega) (by omega) (by omega), f m 38 (by omega) (by omega) (by omega) (by omega) (by omega) (by omega) (by omega) (by omega)]
  exact h
theorem MLn_MP {m : Nat} {I I' : IM} {A : LA} (h : MLn I m A) (f : frMP m I I') : MLn I' m A := by
  obtain ⟨a1, a2, a3, a4, a5, a6⟩ := h
  refine ⟨?_, fun k hk => ?_, fun k hk => ?_, fun p hp => ?_, ?_, fun s hs p hp => ?_⟩
  · rw [f m 0 (by omega) (by omega) (by omega) (by omega) (by omega) (by omega) (by omega) (by omega)]; exact a1
  · rw [f _ _ (by omega) (by omega) (by omega) (by omega) (by omega) (by omega) (by omega) (by omega)]; exact a2 k hk
  · rw [f _ _ (by omega) (by omega) (by omega) (by omega) (by omega) (by omega) (by omega) (by omega)]; exact a3 k hk
  · rw [f _ _ (by omega) (by omega) (by omega) (by omega) (by omega) (by omega) (by omega) (by omega)]; exact a4 p hp
  · rw [f m 7 (by omega) (by omega) (by omega) (by omega) (by omega) (by omega) (by omega) (by omega)]; exact a5
  · rw [f _ _ (by omega) (by omega) (by omega) (by omega) (by omega) (by omega) (by omega) (by omega)]; exact a6 s hs p hp
theorem ms_mv {m : Nat} {I : IM} {A : LA} {mv : Nat → Int} (a : okA A) (h : MLn I m A) (hmv : ∀ k, k < aN A → (I (m + 22) k).toInt = mv k) (hok : okM A mv) : MSm I m (mvA A mv) := by
  obtain ⟨a1, a2, a3, a4, a5, a6⟩ := h
  refine ⟨a1, a2, fun k hk => ?_, a4, a5, a6⟩
  have hk : k < aN A := hk
  have h1 := a.2.2.1 k hk
  have h2 := hok k hk
  exact add_small (a3 k hk) (hmv k hk) (by omega) (by omega)
theorem ms_0 {m : Nat} {I : IM} {A : LA} (a : okA A) (h : MLn I m A) (hz : ∀ k, k < 6 → I (m + 22) k = 0) : MSm I m A := by
  obtain ⟨a1, a2, a3, a4, a5, a6⟩ := h
  refine ⟨a1, a2, fun k hk => ?_, a4, a5, a6⟩
  have h6 := a.1
  rw [hz k (by omega)]
  have : I (m + 2) k + 0 = I (m + 2) k := Int32.add_zero _
  rw [this]
  exact a3 k hk
/-- behind d bearings, the last ones first -/
def plD (m : Nat) (I I2 : IM) (A : LA) (t d : Nat) (g : Bool) : Prop := (∀ a k, a ≠ m + 22 → I2 a k = I a k) ∧ (∀ k, aN A - d ≤ k → k < aN A → (I2 (m + 22) k).toInt = mvZ (aN A) t k) ∧ (g = true ↔ ∀ k, aN A - d ≤ k → k < aN A → -50 ≤ aO A k + mvZ (aN A) t k ∧ aO A k + mvZ (aN A) t k ≤ 50)
theorem plD_0 {m : Nat} {I : IM} {A : LA} {t : Nat} : plD m I I A t 0 true := ⟨fun _ _ _ => rfl, fun k h1 h2 => by omega, ⟨fun _ k h1 h2 => by omega, fun _ => rfl⟩⟩
theorem plD_s {m : Nat} {I I2 : IM} {A : LA} {t d : Nat} {g g' : Bool} {x : Int32} (h : plD m I I2 A t d g) (hd : d < aN A) (hx : x.toInt = mvZ (aN A) t (aN A - 1 - d)) (hg : g' = true ↔ g = true ∧ -50 ≤ aO A (aN A - 1 - d) + mvZ (aN A) t (aN A - 1 - d) ∧ aO A (aN A - 1 - d) + mvZ (aN A) t (aN A - 1 - d) ≤ 50) : plD m I (u2 I2 (m + 22) (aN A - 1 - d) x) A t (d + 1) g' := by
  obtain ⟨f, h1, h2⟩ := h
  refine ⟨fun a k c => by rw [u2_n1 c]; exact f a k c, fun k c1 c2 => ?_, ?_⟩
  · by_cases e : k = aN A - 1 - d
    · rw [e, u2_s]; exact hx
    · rw [u2_n2 e]; exact h1 k (by omega) c2
  · rw [hg, h2]
    constructor
    · intro ⟨q1, q2⟩ k c1 c2
      by_cases e : k = aN A - 1 - d
      · rw [e]; exact q2
      · exact q1 k (by omega) c2
    · intro q
      exact ⟨fun k c1 c2 => q k (by omega) c2, q (aN A - 1 - d) (by omega) (by omega)⟩
theorem plD_e {m : Nat} {I I2 : IM} {A : LA} {t : Nat} {g : Bool} (h : plD m I I2 A t (aN A) g) : (∀ k, k < aN A → (I2 (m + 22) k).toInt = mvZ (aN A) t k) ∧ (g = true ↔ okM A (mvZ (aN A) t)) :=
  ⟨fun k hk => h.2.1 k (by omega) hk, h.2.2.trans ⟨fun q k hk => q k (by omega) hk, fun q k _ hk => q k hk⟩⟩
/-- what was found, as the planner's words tell it -/
def plI (I : IM) (m : Nat) (fnd fsm : Int32) : IM := fun a k => if a = 61 then (if k = 0 then fnd else fsm) else I (m + 23) k
theorem plI_fr {I I' : IM} {m n : Nat} {fnd fsm : Int32} {o : Option Nat} (h : PlR (plI I m fnd fsm) n o) (f : ∀ k, I' (m + 23) k = I (m + 23) k) : PlR (plI I' m fnd fsm) n o := by
  have e : plI I' m fnd fsm = plI I m fnd fsm := by
    funext a k
    unfold plI
    rw [f k]
  rw [e]
  exact h
theorem plI_t {I : IM} {m n t : Nat} {fnd fsm : Int32} (h1 : fnd = nI (mny n t)) (h2 : fsm = nI (smv n t)) (h3 : ∀ k, k < n → (I (m + 23) k).toInt = mvZ n t k) : PlR (plI I m fnd fsm) n (some t) := ⟨h1, h2, h3⟩
theorem mvZ_d {n t d : Nat} (hd : d < n) : mvZ n t (n - 1 - d) = ((t / 5 ^ d % 5 : Nat) : Int) - 2 := by
  unfold mvZ
  rw [show n - 1 - (n - 1 - d) = d by omega]
theorem mny_s {n t d : Nat} {x c : Int32} {y : Int32} (hx : x.toInt = mvZ n t (n - 1 - d)) (hy : y = nI (mnyR n t d)) : (x = 0 → y + 0 = nI (mnyR n t (d + 1))) ∧ (¬ x = 0 → y + 1 = nI (mnyR n t (d + 1))) := by
  subst hy
  have z0 : (0 : Int32).toInt = 0 := rfl
  simp only [mnyR]
  constructor
  · intro e
    rw [e, z0] at hx
    rw [if_pos hx.symm]
    exact Int32.add_zero _
  · intro e
    rw [if_neg (fun q => e (Int32.toInt_inj.mp (by rw [hx, q]; rfl)))]
    exact nI_1 _
theorem smv_s {n t d : Nat} {x : Int32} {y : Int32} (hx : x.toInt = mvZ n t (n - 1 - d)) (hy : y = nI (smvR n t d)) : (0 ≤ x → y + x = nI (smvR n t (d + 1))) ∧ (¬ 0 ≤ x → y + -x = nI (smvR n t (d + 1))) := by
  subst hy
  have z0 : (0 : Int32).toInt = 0 := rfl
  have hin := mvZ_in (n := n) (t := t) (k := n - 1 - d)
  simp only [smvR]
  constructor
  · intro e
    rw [Int32.le_iff_toInt_le, z0, hx] at e
    have : x = nI (mvZ n t (n - 1 - d)).natAbs := to_nI (by rw [hx]; omega)
    rw [this, nI_add]
  · intro e
    rw [Int32.le_iff_toInt_le, z0, hx] at e
    have : -x = nI (mvZ n t (n - 1 - d)).natAbs := to_nI (by
      rw [Int32.toInt_neg, hx, Int.bmod_eq_of_le (by omega) (by omega)]
      omega)
    rw [this, nI_add]
theorem in_50 {x y : Int32} {a b : Int} (hx : x.toInt = a) (hy : y.toInt = b) (h : -1000 ≤ a ∧ a ≤ 1000) (h2 : -1000 ≤ b ∧ b ≤ 1000) : isW (x + y) (-50) 50 = true ↔ -50 ≤ a + b ∧ a + b ≤ 50 := by
  unfold isW
  rw [decide_eq_true_iff, add_small hx hy h h2]
  exact Iff.rfl
theorem b_neg {b : Int32} {n d : Nat} (hb : b = nI (n - d) - 1) (hd : d ≤ n) (h4 : n ≤ 6) : (b < 0 → d = n) ∧ (¬ b < 0 → d < n ∧ b = nI (n - 1 - d)) := by
  rcases Nat.lt_or_ge d n with c | c
  · have e : b = nI (n - 1 - d) := by
      rw [hb]
      have := nI_pred (n - d - 1)
      rw [show n - d - 1 + 1 = n - d by omega] at this
      rw [this, show n - d - 1 = n - 1 - d by omega]
    refine ⟨fun q => ?_, fun _ => ⟨c, e⟩⟩
    rw [e] at q
    exact absurd q (nI_pos (by omega))
  · have e : d = n := by omega
    refine ⟨fun _ => e, fun q => ?_⟩
    subst e
    rw [hb, Nat.sub_self] at q
    exact absurd (by decide) q
theorem b_dn {b b' : Int32} {n d : Nat} (hb : b = nI (n - 1 - d)) (hd : d < n) (h : b' = b + (-1)) : b' = nI (n - (d + 1)) - 1 := by
  rw [h, hb, show n - 1 - d = n - (d + 1) by omega, Int32.sub_eq_add_neg]
def plsP (sh : Sh) (I : IM) (L : LM) (R : RM) (m : Nat) (A : LA) (lo hi : Int) (v : Int32) : PPost := fun ret sh' I' L' R' => sh' = sh ∧ R' = R ∧ frMP m I I' ∧ frML m L L' ∧ (∀ k, k < 6 → I' (m + 22) k = 0) ∧ ∃ fnd fsm : Int32, ret = some (.int fnd) ∧ PlR (plI I' m fnd fsm) (aN A) (plS A lo hi (selM v) (5 ^ aN A))
def plM (sh : Sh) (I : IM) (L : LM) (R : RM) (m : Nat) (Ans : Option Value → Prop) : PPost := fun ret sh' I' L' R' => sh' = sh ∧ R' = R ∧ frMP m I I' ∧ frML m L L' ∧ (∀ k, k < 6 → I' (m + 22) k = 0) ∧ Ans ret
theorem pls_V {I : IM} {m : Nat} {A : LA} {lo hi : Int} {v fnd fsm : Int32} (h4 : aN A ≤ 4) (h : PlR (plI I m fnd fsm) (aN A) (plS A lo hi (selM v) (5 ^ aN A))) : fnd = planV A lo hi v := planV_ok (I := plI I m fnd fsm) (Or.inl ⟨h4, h⟩)
theorem plV_no {A : LA} {lo hi : Int} {v : Int32} (h4 : ¬ aN A ≤ 4) : -4 = planV A lo hi v := by
  unfold planV
  rw [if_neg h4]
theorem pls_m {I : IM} {m b : Nat} {A : LA} {lo hi : Int} {v fnd fsm : Int32} (h4 : aN A ≤ 4) (hb : b < aN A) (h : PlR (plI I m fnd fsm) (aN A) (plS A lo hi (selM v) (5 ^ aN A))) : (¬ 0 ≤ fnd → movA A lo hi v b (some (.int (-104)))) ∧ (0 ≤ fnd → movA A lo hi v b (some (.int (I (m + 23) b)))) := by
  have := mov_ok (I := plI I m fnd fsm) (v := v) (Or.inl ⟨h4, h⟩) hb
  exact ⟨fun c => this.1 (Int32.not_le.mp c), fun c => this.2.1 (Int32.not_lt.mpr c)⟩
