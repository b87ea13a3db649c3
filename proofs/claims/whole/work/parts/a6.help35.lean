/-! PLANS -/
theorem sel_bit {v : Int32} (h : isW v 1 15 = true) : ∃ s, s < 4 ∧ selM v s = true := by
  have h1 := k_isW (c := 1) (d := 15) h rfl rfl
  obtain ⟨j, hj, rfl⟩ := k_nat (n := 15) (by omega) h1.2 (by decide)
  have hj0 : 1 ≤ j := by
    have := h1.1
    rw [nI_toInt (by omega)] at this
    omega
  have key : ∀ j, j < 16 → 1 ≤ j → ∃ s, s < 4 ∧ selM (nI j) s = true := by decide +kernel
  exact key j (by omega) hj0
theorem plS_small {A : LA} {lo hi : Int} {v : Int32} (h2 : aN A < 2) (h : isW v 1 15 = true) : ∀ k, plS A lo hi (selM v) k = none
  | 0 => rfl
  | k + 1 => by
    have ih := plS_small (lo := lo) (hi := hi) h2 h k
    rw [plS_f, ih]
    intro ⟨_, _, hf⟩
    obtain ⟨s, hs, hb⟩ := sel_bit h
    obtain ⟨c, hc, _⟩ := hf s hs hb
    have h3 := hc.1
    have h4 := hc.2.1
    have h3 : c < 2 ^ aN A := h3
    have : aN A = 0 ∨ aN A = 1 := by omega
    rcases this with e | e <;> rw [e] at h3
    · have : c = 0 := by omega
      subst this
      exact absurd h4 (by decide)
    · have : c = 0 ∨ c = 1 := by omega
      rcases this with e | e <;> subst e <;> exact absurd h4 (by decide)
def PlOut (I : IM) (A : LA) (lo hi : Int) (v : Int32) : Prop := (aN A ≤ 4 ∧ PlR I (aN A) (plS A lo hi (selM v) (5 ^ aN A))) ∨ (¬ aN A ≤ 4 ∧ I 61 0 = -4)
def CPl (I : IM) (A : LA) (lo hi : Int) : Prop := I 0 14 = 0 ∨ (isW (I 0 14) 1 15 = true ∧ PlOut I A lo hi (I 0 14))
theorem PlOut_fr {I I' : IM} {A : LA} {lo hi : Int} {v : Int32} (h : PlOut I A lo hi v) (f : ∀ a k, a = 61 ∨ a = 62 → I' a k = I a k) : PlOut I' A lo hi v := by
  rcases h with ⟨h4, h⟩ | ⟨h4, h⟩
  · exact Or.inl ⟨h4, PlR_fr h f⟩
  · exact Or.inr ⟨h4, by rw [f 61 0 (Or.inl rfl)]; exact h⟩
theorem CPl_fr {I I' : IM} {A : LA} {lo hi : Int} (h : CPl I A lo hi) (f : ∀ a k, a = 61 ∨ a = 62 → I' a k = I a k) (f0 : I' 0 14 = I 0 14) : CPl I' A lo hi := by
  rcases h with h | ⟨h, g⟩
  · exact Or.inl (by rw [f0]; exact h)
  · exact Or.inr ⟨by rw [f0]; exact h, by rw [f0]; exact PlOut_fr g f⟩
def mkpP (sh : Sh) (I : IM) (L : LM) (R : RM) (A : LA) (lo hi : Int) (v : Int32) : PPost := fun ret sh' I' L' R' => ret = none ∧ sh' = sh ∧ (∀ a k, (a ≠ 61 ∨ k ≠ 2) → R' a k = R a k) ∧ (∀ a k, (a < 45 ∨ 70 ≤ a) → (a ≠ 0 ∨ (k ≠ 9 ∧ k ≠ 10 ∧ k ≠ 14)) → I' a k = I a k) ∧ (∀ a k, (a < 46 ∨ (57 < a ∧ a < 61) ∨ 68 < a) → L' a k = L a k) ∧ CRest I' L' A ∧ I' 0 14 = v ∧ PlOut I' A lo hi v
theorem ClsF_p {sh : Sh} {R : RM} (h : ClsF sh R) : ClsF sh (u2 R 61 2 (some 1)) := ClsF_R h (fun a k _ h2 => by
  unfold u2
  rw [if_neg (by omega)])
/-- the planner's state when it begins to search -/
theorem PLc_of {I : IM} {L : LM} {A : LA} {lo hi : Int} {g : Nat → Bool} (h1 : PSet I (aN A)) (h2 : PMem I L (aQ A) (aN A) (ordK (aN A))) (h3 : ∀ k, k < aN A → PGk L (aQ A) (stf A) (aN A) k (ordK (aN A))) (h4 : ∀ st, st < 4 → g st = true → PBs L (aQ A) (hgt A st) (wgt A) (stf A) (aN A) st (ordK (aN A))) (h5 : (L 61 3).toInt = lo) (h6 : (L 61 4).toInt = hi) : PLc I L A lo hi g := ⟨h1, h2, h3, h4, h5, h6⟩
noncomputable def planV (A : LA) (lo hi : Int) (v : Int32) : Int32 := if aN A ≤ 4 then (match plS A lo hi (selM v) (5 ^ aN A) with
  | none => -4
  | some t => nI (mny (aN A) t)) else -4
theorem planV_ok {I : IM} {A : LA} {lo hi : Int} {v : Int32} (h : PlOut I A lo hi v) : I 61 0 = planV A lo hi v := by
  unfold planV
  rcases h with ⟨h4, h⟩ | ⟨h4, h⟩
  · rw [if_pos h4]
    cases e : plS A lo hi (selM v) (5 ^ aN A) with
    | none => rw [e] at h; exact h
    | some t => rw [e] at h; exact h.1
  · rw [if_neg h4]
    exact h
def movA (A : LA) (lo hi : Int) (v : Int32) (b : Nat) (ret : Option Value) : Prop := (aN A ≤ 4 ∧ ∃ t, plS A lo hi (selM v) (5 ^ aN A) = some t ∧ ret = some (.int (Int32.ofInt (mvZ (aN A) t b)))) ∨ ((aN A ≤ 4 → plS A lo hi (selM v) (5 ^ aN A) = none) ∧ ret = some (.int (-104)))
def plnP (sh : Sh) (I : IM) (L : LM) (R : RM) (A : LA) (lo hi : Int) (Ans : Option Value → Prop) : PPost := fun ret sh' I' L' R' => sh' = sh ∧ (∀ a k, (a ≠ 61 ∨ k ≠ 2) → R' a k = R a k) ∧ (∀ a k, (a < 45 ∨ 70 ≤ a) → (a ≠ 0 ∨ (k ≠ 9 ∧ k ≠ 10 ∧ k ≠ 14)) → I' a k = I a k) ∧ (∀ a k, (a < 46 ∨ (57 < a ∧ a < 61) ∨ 68 < a) → L' a k = L a k) ∧ CRest I' L' A ∧ CPl I' A lo hi ∧ Ans ret
theorem mkp_same {I : IM} {A : LA} {lo hi : Int} {v : Int32} (h : CPl I A lo hi) (e : I 0 14 = v) (hv : isW v 1 15 = true) : PlOut I A lo hi v := by
  rcases h with h | ⟨_, h⟩
  · rw [h] at e
    rw [← e] at hv
    exact absurd hv (by decide)
  · rw [e] at h
    exact h
theorem mkp_no {I : IM} {A : LA} {lo hi : Int} {v : Int32} (h : ¬ (2 ≤ aN A ∧ aN A ≤ 4)) (hv : isW v 1 15 = true) (hm : I 61 0 = -4) : PlOut I A lo hi v := by
  by_cases c : aN A ≤ 4
  · refine Or.inl ⟨c, ?_⟩
    rw [plS_small (by omega) hv]
    exact hm
  · exact Or.inr ⟨c, hm⟩
theorem mkp_end {sh : Sh} {I I6 : IM} {L L6 : LM} {R R1 : RM} {A : LA} {lo hi : Int} {v : Int32} (hR : ∀ a k, (a ≠ 61 ∨ k ≠ 2) → R1 a k = R a k) (f : ∀ a k, (a < 45 ∨ 70 ≤ a) → (a ≠ 0 ∨ (k ≠ 9 ∧ k ≠ 10 ∧ k ≠ 14)) → I6 a k = I a k) (g : ∀ a k, (a < 46 ∨ (57 < a ∧ a < 61) ∨ 68 < a) → L6 a k = L a k) (hr : CRest I6 L6 A) (hp : PlOut I6 A lo hi v) : mkpP sh I L R A lo hi v none sh (u2 I6 0 14 v) L6 R1 := by
  refine ⟨rfl, rfl, hR, fun a k c1 c2 => ?_, g, CRest_fr hr (fun a k h1 h2 => u2_n1 (by omega)) (fun k hk => u2_n2 (by omega)) (fun _ _ _ _ => rfl), u2_s, PlOut_fr hp (fun a k c => u2_n1 (by omega))⟩
  have : u2 I6 0 14 v a k = I6 a k := by
    unfold u2
    rw [if_neg (by omega)]
  rw [this]
  exact f a k c1 c2
theorem mov_ok {I : IM} {A : LA} {lo hi : Int} {v : Int32} {b : Nat} (h : PlOut I A lo hi v) (hb : b < aN A) : (I 61 0 < 0 → movA A lo hi v b (some (.int (-104)))) ∧ (¬ I 61 0 < 0 → movA A lo hi v b (some (.int (I 62 b)))) ∧ (4 ≤ b → movA A lo hi v b (some (.int (-104)))) := by
  rcases h with ⟨h4, h⟩ | ⟨h4, h⟩
  · cases e : plS A lo hi (selM v) (5 ^ aN A) with
    | none =>
      rw [e] at h
      have h : I 61 0 = -4 := h
      refine ⟨fun _ => Or.inr ⟨fun _ => e, rfl⟩, fun c => ?_, fun c => by omega⟩
      rw [h] at c
      exact absurd (by decide) c
    | some t =>
      rw [e] at h
      refine ⟨fun c => ?_, fun _ => Or.inl ⟨h4, t, e, ?_⟩, fun c => by omega⟩
      · have : mny (aN A) t ≤ aN A ∧ smv (aN A) t ≤ 2 * aN A := mny_le (n := aN A) (t := t) (aN A)
        rw [h.1] at c
        exact absurd c (nI_pos (by omega))
      · rw [← h.2.2 b hb, Int32.ofInt_toInt]
  · refine ⟨fun _ => Or.inr ⟨fun c => absurd c h4, rfl⟩, fun c => ?_, fun _ => Or.inr ⟨fun c => absurd c h4, rfl⟩⟩
    rw [h] at c
    exact absurd (by decide) c
