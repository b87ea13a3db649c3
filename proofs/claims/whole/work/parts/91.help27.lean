theorem flt_x {f : Nat → Int32} {T : Nat} {ret : Option Value} {Q : DR → Prop} (h : (∃ e D', pTx f T 19 0 dr0 = (e, some D') ∧ ret = some (.int (-1)) ∧ okD D' ∧ Q D') ∨ (∃ e, e ≤ 120 ∧ pTx f T 19 0 dr0 = (e, none) ∧ ret = some (.int (nI e)))) : ∃ x : Int32, ret = some (.int x) ∧ (x < 0 → ∃ e D', pTx f T 19 0 dr0 = (e, some D') ∧ okD D' ∧ Q D') ∧ (¬ x < 0 → ∃ e, pTx f T 19 0 dr0 = (e, none) ∧ x = nI e) := by
  rcases h with ⟨e, D, h1, h2, h3, h4⟩ | ⟨e, h0, h1, h2⟩
  · exact ⟨-1, h2, fun _ => ⟨e, D, h1, h3, h4⟩, fun c => absurd (by decide) c⟩
  · exact ⟨nI e, h2, fun c => absurd c (nI_pos (by omega)), fun _ => ⟨e, h1, rfl⟩⟩
theorem rea_end {sh : Sh} {I I1 I2 I3 : IM} {L : LM} {R R9 : RM} {T e : Nat} {D' : DR} (fD1 : frD I I1) (hpt : pTx (I 12) T 19 0 dr0 = (e, some D')) (hok : okD D') (hdr : DraftC I1 D') (o2 : ∀ a k, (a ≠ 0 ∨ (k ≠ 3 ∧ k ≠ 9 ∧ k ≠ 14)) → I2 a k = I1 a k) (o29 : I2 0 9 = -1) (o214 : I2 0 14 = 0) (o23 : I2 0 3 = 0)
    (h31 : LinS I3 1 (foldI D'.1)) (h32 : ∀ k, k < (foldI D'.1).1 → I3 4 k = 0 ∧ I3 5 k = 0) (h33 : ∀ p, p < 13 → I3 6 p = I2 19 p) (h34 : I3 1 6 = if 0 < I2 14 6 then I2 14 6 else I2 1 6) (h35 : ∀ a k, (a = 0 ∨ 6 < a) → I3 a k = I2 a k) (hR : R9 = u2 R 13 1 (some 12)) : reaP sh I L R T (some (.int (I3 1 0))) sh I3 L R9 := by
  refine ⟨rfl, hR, rfl, by rw [h35 _ _ (Or.inl rfl)]; exact o23, fun a k c => ?_, Or.inl ⟨e, D', hpt, hok, by rw [h31.1], by rw [h35 _ _ (Or.inl rfl)]; exact o29, by rw [h35 _ _ (Or.inl rfl)]; exact o214, h31, h32, fun p hp => ?_, ?_⟩⟩
  · rw [h35 a k (by omega), o2 a k (by omega)]
    exact fD1 a k (by omega)
  · rw [h33 p hp, o2 _ _ (Or.inl (by decide))]
    exact hdr.2.2.2.1 p hp
  · have e6 : I2 14 6 = I1 14 6 := o2 _ _ (by decide)
    have e7 : I2 1 6 = I 1 6 := (o2 _ _ (by decide)).trans (fD1 _ _ (by decide))
    have hz : (0 < I2 14 6) = (0 < D'.2.2) := by
      rw [e6]
      apply propext
      rw [Int32.lt_iff_toInt_lt, hdr.2.2.2.2]
      exact Iff.rfl
    rw [h34]
    simp only [hz]
    split
    · rw [e6]
      exact hdr.2.2.2.2
    · rw [e7]
