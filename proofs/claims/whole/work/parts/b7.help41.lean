theorem pW_ok {f : Nat → Int32} {T a : Nat} {D : DR} (h : okZ f T a 0 12) (h2 : ¬ 0 < D.2.1 (numZ f T (skB f a T)).2) : pW f T a D = pW2 f T (numZ f T (skB f a T)).1 (numZ f T (skB f a T)).2 D := by
  unfold pW
  rw [if_pos h.1, if_pos ⟨h.2.2, h2⟩]
theorem pW_no {f : Nat → Int32} {T a : Nat} {D : DR} (h : ¬ (okZ f T a 0 12 ∧ ¬ 0 < D.2.1 (numZ f T (skB f a T)).2)) : pW f T a D = (skB f a T, none) := by
  unfold pW
  split
  · rename_i h1
    split
    · rename_i h2
      exact absurd ⟨⟨h1, Nat.zero_le _, h2.1⟩, h2.2⟩ h
    · rfl
  · rfl
theorem pW2_0 {f : Nat → Int32} {T a p : Nat} {D : DR} (h : ¬ nxt f (skB f a T) T = 61) : pW2 f T a p D = (skB f a T, none) := by
  unfold pW2
  rw [if_neg h]
theorem pW2_ok {f : Nat → Int32} {T a p : Nat} {D : DR} (h : nxt f (skB f a T) T = 61) (h3 : okZ f T (skB f a T + 1) 1 50) : pW2 f T a p D = ((numZ f T (skB f (skB f a T + 1) T)).1, some (D.1, updZ D.2.1 p ((numZ f T (skB f (skB f a T + 1) T)).2 : Int), D.2.2)) := by
  unfold pW2
  rw [if_pos h, if_pos h3.1, if_pos h3.2]
theorem pW2_no {f : Nat → Int32} {T a p : Nat} {D : DR} (h : nxt f (skB f a T) T = 61) (h3 : ¬ okZ f T (skB f a T + 1) 1 50) : pW2 f T a p D = (skB f (skB f a T + 1) T, none) := by
  unfold pW2
  rw [if_pos h]
  split
  · rename_i h4
    split
    · rename_i h5
      exact absurd ⟨h4, h5⟩ h3
    · rfl
  · rfl
theorem pF_ok {f : Nat → Int32} {T a : Nat} {D : DR} (h : okZ f T a 1 20) : pF f T a D = ((numZ f T (skB f a T)).1, some (D.1, D.2.1, ((numZ f T (skB f a T)).2 : Int))) := by
  unfold pF
  rw [if_pos h.1, if_pos h.2]
theorem pF_no {f : Nat → Int32} {T a : Nat} {D : DR} (h : ¬ okZ f T a 1 20) : pF f T a D = (skB f a T, none) := by
  unfold pF
  split
  · rename_i h1
    split
    · rename_i h2
      exact absurd ⟨h1, h2⟩ h
    · rfl
  · rfl
theorem cl_weight {sh : Sh} {I I8 : IM} {L : LM} {R : RM} {m T p e V : Nat} {s0 : Int32} {D : DR} {y : Int32} {r : Nat × Option DR} (f : frM m I I8) (h : RdM I8 m T e s0 D) (hp : p < 13) (hy : y = nI V) (hz : V ≤ 50) (hr : r = (e, some (D.1, updZ D.2.1 p (V : Int), D.2.2))) : clP sh I L R m T s0 r none sh (u2 I8 (m + 10) p y) L R := by
  subst hr
  obtain ⟨h1, h2, h3, h4, h5, hk, d1, d2, d3, d4⟩ := h
  refine ⟨rfl, rfl, rfl, rfl, frM_t f (fun c k q => u2_n1 (by omega)), Or.inl ⟨_, rfl, by rw [u2_n1 (by omega)]; exact h1, by rw [u2_n1 (by omega)]; exact h2, by rw [u2_n1 (by omega)]; exact h3, h4, h5, okD_w hk hz, by rw [u2_n1 (by omega)]; exact d1, fun k x ex => ?_, fun q hq => ?_, by rw [u2_n1 (by omega)]; exact d4⟩⟩
  · rw [u2_n1 (by omega), u2_n1 (by omega)]
    exact d2 k x ex
  · show (u2 I8 (m + 10) p y (m + 10) q).toInt = if q = p then (V : Int) else D.2.1 q
    by_cases c : q = p
    · rw [if_pos c, c, u2_s, hy, nI_toInt (by omega)]
    · rw [if_neg c, u2_n2 c]
      exact d3 q hq
theorem cl_stiff {sh : Sh} {I I8 : IM} {L : LM} {R : RM} {m T e V : Nat} {s0 : Int32} {D : DR} {y : Int32} {r : Nat × Option DR} (f : frM m I I8) (h : RdM I8 m T e s0 D) (hy : y = nI V) (hz : 1 ≤ V ∧ V ≤ 20) (hr : r = (e, some (D.1, D.2.1, (V : Int)))) : clP sh I L R m T s0 r none sh (u2 I8 m 16 y) L R := by
  subst hr
  obtain ⟨h1, h2, h3, h4, h5, hk, d1, d2, d3, d4⟩ := h
  refine ⟨rfl, rfl, rfl, rfl, frM_t f (fun c k q => by unfold u2; rw [if_neg (by omega)]), Or.inl ⟨_, rfl, by rw [u2_n2 (by decide)]; exact h1, by rw [u2_n2 (by decide)]; exact h2, by rw [u2_n2 (by decide)]; exact h3, h4, h5, okD_f hk hz.2, by rw [u2_n2 (by decide)]; exact d1, fun k x ex => ?_, fun q hq => ?_, ?_⟩⟩
  · rw [u2_n1 (by omega), u2_n1 (by omega)]
    exact d2 k x ex
  · rw [u2_n1 (by omega)]
    exact d3 q hq
  · show (u2 I8 m 16 y m 16).toInt = if 0 < (V : Int) then (V : Int) else s0.toInt
    rw [u2_s, hy, nI_toInt (by omega), if_pos (by omega)]
theorem wt_pos {I : IM} {m : Nat} {s0 : Int32} {D : DR} {p : Nat} (h : DrM I m s0 D) (hp : p < 13) : 0 < I (m + 10) p ↔ 0 < D.2.1 p := by
  rw [Int32.lt_iff_toInt_lt, h.2.2.1 p hp]
  exact Iff.rfl
