/-! clauses and texts: where they end; the class's line becomes its draft -/
theorem skT {f : Nat → Int32} {a T : Nat} (h : a ≤ T) : skB f a T ≤ T := (skB_le h).2
theorem sk1 {f : Nat → Int32} {a T : Nat} {c : Int32} (h : nxt f (skB f a T) T = c) (hc : ¬ c = -1) : skB f a T + 1 ≤ T := nxt_lt h hc
theorem pB2_le {f : Nat → Int32} {T a p : Nat} {D : DR} (h : a ≤ T) : (pB2 f T a p D).1 ≤ T := by
  unfold pB2
  split
  · rename_i h1
    have k1 := sk1 h1 (by decide)
    split
    · rename_i h2
      have k2 := sk1 h2 (by decide)
      split
      · split
        · exact (numZ_le (skT k2)).2
        · exact skT k2
      · exact skT k2
    · split
      · split
        · exact (numZ_le (skT k1)).2
        · exact skT k1
      · exact skT k1
  · exact skT h
theorem pB_le {f : Nat → Int32} {T a : Nat} {D : DR} (h : a ≤ T) : (pB f T a D).1 ≤ T := by
  unfold pB
  split
  · split
    · exact pB2_le (numZ_le (skT h)).2
    · exact skT h
  · exact skT h
theorem pW_le {f : Nat → Int32} {T a : Nat} {D : DR} (h : a ≤ T) : (pW f T a D).1 ≤ T := by
  unfold pW
  split
  · split
    · unfold pW2
      have hz := (numZ_le (f := f) (skT (f := f) h)).2
      split
      · rename_i h1
        have k1 := sk1 h1 (by decide)
        split
        · split
          · exact (numZ_le (skT k1)).2
          · exact skT k1
        · exact skT k1
      · exact skT hz
    · exact skT h
  · exact skT h
theorem pF_le {f : Nat → Int32} {T a : Nat} {D : DR} (h : a ≤ T) : (pF f T a D).1 ≤ T := by
  unfold pF
  split
  · split
    · exact (numZ_le (skT h)).2
    · exact skT h
  · exact skT h
theorem pCl_le {f : Nat → Int32} {T a : Nat} {D : DR} (h : a ≤ T) : (pCl f T a D).1 ≤ T := by
  unfold pCl
  split
  · rename_i h1
    split
    · exact pB_le (sk1 h1 (by decide))
    · exact skT h
  · split
    · rename_i h1
      exact pW_le (sk1 h1 (by decide))
    · split
      · rename_i h1
        exact pF_le (sk1 h1 (by decide))
      · exact skT h
theorem rd_end {sh : Sh} {I I1 : IM} {L : LM} {R : RM} {T : Nat} {r r' : Nat × Option DR} {bb : Bool} (f : frD I I1) (h1 : bb = true → ∃ D', r.2 = some D' ∧ RdI I1 T r.1 D') (h2 : bb = false → r.2 = none ∧ I1 13 5 = nI r.1) (e : r' = r) : rdP sh I L R T r' (some (.int (bI bb))) sh I1 L R := by
  subst e
  refine ⟨rfl, rfl, rfl, f, ?_⟩
  cases bb with
  | true => exact Or.inl ⟨rfl, h1 rfl⟩
  | false => exact Or.inr ⟨rfl, h2 rfl⟩
theorem rd_skip {I : IM} {T a : Nat} {D : DR} (h : RdI I T a D) : RdI (u2 I 13 3 (nI (skB (I 12) a T))) T (skB (I 12) a T) D ∧ frR I (u2 I 13 3 (nI (skB (I 12) a T))) := by
  have f : frR I (u2 I 13 3 (nI (skB (I 12) a T))) := ⟨fun b k hb => u2_n1 hb, u2_n2 (by decide)⟩
  exact ⟨RdI_at h f u2_s (skT h.2.2.1), f⟩
/-- what faultOf leaves -/
def fltP (sh : Sh) (I : IM) (L : LM) (R : RM) (T : Nat) : PPost := fun ret sh' I' L' R' => sh' = sh ∧ R' = u2 R 13 1 (some 12) ∧ L' = L ∧ frD I I' ∧ ((∃ e D', pTx (I 12) T 19 0 dr0 = (e, some D') ∧ ret = some (.int (-1)) ∧ okD D' ∧ DraftC I' D') ∨ (∃ e, e ≤ 120 ∧ pTx (I 12) T 19 0 dr0 = (e, none) ∧ ret = some (.int (nI e))))
theorem read_0 {I' : IM} {T : Nat} {x : Int32} (hx : x = nI T) (hT : T ≤ 120) (h2 : I' 13 2 = x) (h3 : I' 13 3 = 0) (h40 : I' 14 0 = 0) (h46 : I' 14 6 = 0) (h19 : ∀ p, p < 13 → I' 19 p = 0) : RdI I' T 0 dr0 := ⟨h2.trans hx, h3, Nat.zero_le _, hT, okD_0, h40, fun k hk => absurd hk (Nat.not_lt_zero _), fun k hk => absurd hk (Nat.not_lt_zero _), fun p hp => by rw [h19 p hp]; rfl, by rw [h46]; rfl⟩
theorem px_no {f : Nat → Int32} {T n a : Nat} {D : DR} {r : Nat × Option DR} (h : pCl f T a D = r) (h2 : r.2 = none) : pTx f T n a D = (r.1, none) := by
  obtain ⟨e, o⟩ := r
  simp only at h2
  subst h2
  unfold pTx
  rw [h]
theorem px_end {f : Nat → Int32} {T n a : Nat} {D D' : DR} {r : Nat × Option DR} (h : pCl f T a D = r) (h2 : r.2 = some D') (h3 : T ≤ skB f r.1 T) : pTx f T n a D = (r.1, some D') := by
  obtain ⟨e, o⟩ := r
  simp only at h2 h3
  subst h2
  unfold pTx
  rw [h]
  simp only [if_pos h3]
theorem px_bad {f : Nat → Int32} {T n a : Nat} {D D' : DR} {r : Nat × Option DR} (h : pCl f T a D = r) (h2 : r.2 = some D') (h3 : ¬ T ≤ skB f r.1 T) (h4 : ¬ nxt f (skB f r.1 T) T = 59 ∨ n = 0) : pTx f T n a D = (skB f r.1 T, none) := by
  obtain ⟨e, o⟩ := r
  simp only at h2 h3 h4
  subst h2
  unfold pTx
  rw [h]
  simp only [if_neg h3]
  rcases h4 with h4 | h4
  · rw [if_neg h4]
  · subst h4
    split <;> rfl
theorem px_go2 {f : Nat → Int32} {T n a : Nat} {D D' : DR} {r : Nat × Option DR} (h : pCl f T a D = r) (h2 : r.2 = some D') (h3 : ¬ T ≤ skB f r.1 T) (h4 : nxt f (skB f r.1 T) T = 59) : pTx f T (n + 1) a D = pTx f T n (skB f r.1 T + 1) D' := by
  obtain ⟨e, o⟩ := r
  simp only at h2 h3 h4
  subst h2
  conv => lhs; unfold pTx
  rw [h]
  simp only [if_neg h3, if_pos h4]
/-- a text that is read -/
def RdrF (sh : Sh) (R : RM) : Prop := sh[13]? = some (.inl 4) ∧ R 13 0 = some 14 ∧ LineF sh R 14 ∧ sh[12]? = some (.inr (.byte, 120))
theorem RdrF_R {sh : Sh} {R : RM} (h : RdrF sh R) : ReadF sh (u2 R 13 1 (some 12)) 13 12 := by
  obtain ⟨h1, h2, ⟨f0, f1, f2, f3, f4, f5, g1, g2, g3, g4, g5⟩, h4⟩ := h
  refine ⟨h1, by rw [u2_n2 (by decide)]; exact h2, ⟨f0, f1, f2, f3, f4, f5, ?_, ?_, ?_, ?_, ?_⟩, u2_s, h4, by decide⟩
  · rw [u2_n1 (by decide)]; exact g1
  · rw [u2_n1 (by decide)]; exact g2
  · rw [u2_n1 (by decide)]; exact g3
  · rw [u2_n1 (by decide)]; exact g4
  · rw [u2_n1 (by decide)]; exact g5
