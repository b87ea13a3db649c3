def orB (g : Nat → Bool) : Nat → Bool
  | 0 => false
  | n + 1 => orB g n || g n
theorem orB_t {g : Nat → Bool} : ∀ n, orB g n = true ↔ ∃ k, k < n ∧ g k = true
  | 0 => ⟨fun h => (by cases h), fun ⟨k, hk, _⟩ => absurd hk (Nat.not_lt_zero k)⟩
  | n + 1 => by
    simp only [orB, Bool.or_eq_true, orB_t n]
    constructor
    · rintro (⟨k, hk, e⟩ | e)
      · exact ⟨k, by omega, e⟩
      · exact ⟨n, by omega, e⟩
    · rintro ⟨k, hk, e⟩
      by_cases c : k = n
      · exact Or.inr (c ▸ e)
      · exact Or.inl ⟨k, by omega, e⟩
def figP (sh : Sh) (I : IM) (L : LM) (R : RM) (m T a : Nat) (hasQ : Nat → Prop) : PPost := fun ret sh' I' L' R' => sh' = sh ∧ R' = R ∧ L' = L ∧ frN m I I' ∧ ∃ p, p < 13 ∧ ret = some (.int (nI p)) ∧
  ((I' m 11 = 0 ∧ okZ (I (m + 7)) T a 0 12 ∧ p = (numZ (I (m + 7)) T (skB (I (m + 7)) a T)).2 ∧ ¬ hasQ p ∧ I' m 10 = nI (numZ (I (m + 7)) T (skB (I (m + 7)) a T)).1) ∨
   (I' m 11 = 1 ∧ ¬ (okZ (I (m + 7)) T a 0 12 ∧ ¬ hasQ (numZ (I (m + 7)) T (skB (I (m + 7)) a T)).2) ∧ I' m 10 = nI (skB (I (m + 7)) a T)))
/-- number, behind next -/
def figN (I I3 : IM) (m T a p : Nat) : Prop := (I3 m 11 = 0 ∧ okZ (I (m + 7)) T a 0 12 ∧ p = (numZ (I (m + 7)) T (skB (I (m + 7)) a T)).2 ∧ I3 m 10 = nI (numZ (I (m + 7)) T (skB (I (m + 7)) a T)).1) ∨ (I3 m 11 = 1 ∧ ¬ okZ (I (m + 7)) T a 0 12 ∧ I3 m 10 = nI (skB (I (m + 7)) a T))
theorem fig_n {I I1 I3 : IM} {m T a : Nat} {v : Int32} (haT : a ≤ T) (x1 : I1 (m + 7) = I (m + 7))
    (h : (I3 m 11 = 0 ∧ false = false ∧ okZ (I1 (m + 7)) T (skB (I (m + 7)) a T) 0 12 ∧ v = nI (numZ (I1 (m + 7)) T (skB (I1 (m + 7)) (skB (I (m + 7)) a T) T)).2 ∧ I3 m 10 = nI (numZ (I1 (m + 7)) T (skB (I1 (m + 7)) (skB (I (m + 7)) a T) T)).1) ∨
   (I3 m 11 = 1 ∧ (v = 0 ∨ v = 0) ∧ (false = false → ¬ okZ (I1 (m + 7)) T (skB (I (m + 7)) a T) 0 12 ∧ I3 m 10 = nI (skB (I1 (m + 7)) (skB (I (m + 7)) a T) T)) ∧ (false = true → I3 m 10 = I1 m 10))) : ∃ p, p < 13 ∧ v = nI p ∧ figN I I3 m T a p := by
  have hi := skB_idem (f := I (m + 7)) haT
  rw [x1, hi] at h
  have ho : okZ (I (m + 7)) T (skB (I (m + 7)) a T) 0 12 ↔ okZ (I (m + 7)) T a 0 12 := by
    unfold okZ
    rw [hi]
  rcases h with ⟨h1, _, h2, h3, h4⟩ | ⟨h1, h2, h3, _⟩
  · exact ⟨_, by have := (ho.mp h2).2.2; omega, h3, Or.inl ⟨h1, ho.mp h2, rfl, h4⟩⟩
  · exact ⟨0, by decide, by rcases h2 with h2 | h2 <;> exact h2, Or.inr ⟨h1, fun q => (h3 rfl).1 (ho.mpr q), (h3 rfl).2⟩⟩
theorem fig_end {sh : Sh} {I I3 : IM} {L : LM} {R : RM} {m T a p : Nat} {hasQ : Nat → Prop} {b : Bool} (f : frN m I I3) (hp : p < 13) (h : figN I I3 m T a p) (hb : b = true ↔ hasQ p) (hc : I3 m 11 = 0 → b = false) : figP sh I L R m T a hasQ (some (.int (nI p))) sh I3 L R := by
  refine ⟨rfl, rfl, rfl, f, p, hp, rfl, ?_⟩
  rcases h with ⟨h1, h2, h3, h4⟩ | ⟨h1, h2, h3⟩
  · refine Or.inl ⟨h1, h2, h3, fun q => ?_, h4⟩
    have := hc h1
    rw [hb.mpr q] at this
    cases this
  · exact Or.inr ⟨h1, fun q => h2 q.1, h3⟩
theorem fig_has {sh : Sh} {I I3 I' : IM} {L : LM} {R : RM} {m T a p : Nat} {hasQ : Nat → Prop} {b : Bool} {fi : Int32} (f : frN m I I3) (hp : p < 13) (h : figN I I3 m T a p) (hb : b = true ↔ hasQ p) (h0 : I3 m 11 = 0) (h1 : b = true) (hf : fi = nI (skB (I (m + 7)) a T)) (hI : I' = u2 (u2 I3 m 11 1) m 10 fi) : figP sh I L R m T a hasQ (some (.int (nI p))) sh I' L R := by
  subst hI
  refine ⟨rfl, rfl, rfl, frN_t f (frN_t (frN_u (Or.inr rfl)) (frN_u (Or.inl rfl))), p, hp, rfl, Or.inr ⟨by rw [u2_n2 (by decide), u2_s], fun q => q.2 ?_, by rw [u2_s, hf]⟩⟩
  rcases h with ⟨_, _, h3, _⟩ | ⟨h2, _⟩
  · rw [← h3]
    exact hb.mp h1
  · rw [h0] at h2
    exact absurd h2 (by decide)
theorem or_2 {b : Bool} {x y z : Int32} {g : Nat → Bool} {k : Nat} (hb : x = bI (orB g k)) (hg : g k = decide (y = z)) : (¬ x = 0 → (1 : Int32) = bI (orB g (k + 1))) ∧ (x = 0 → y = z → (1 : Int32) = bI (orB g (k + 1))) ∧ (x = 0 → ¬ y = z → (0 : Int32) = bI (orB g (k + 1))) := by
  subst hb
  simp only [orB, hg]
  refine ⟨fun h => ?_, fun h1 h2 => ?_, fun h1 h2 => ?_⟩
  · cases e : orB g k with
    | true => rfl
    | false => rw [e] at h; exact absurd rfl h
  · rw [decide_eq_true h2, Bool.or_true]; rfl
  · rw [decide_eq_false h2, Bool.or_false]; exact h1.symm
