theorem rn_yes {P : Bool} {x : Int32} {V : Nat} {M M2 : Prop} (h : (P = true ∧ x.toInt = ((min V 1000 : Nat) : Int) ∧ M) ∨ (P = false ∧ x = -1 ∧ M2)) (c : 0 ≤ x) : P = true ∧ x.toInt = ((min V 1000 : Nat) : Int) ∧ M := by
  rcases h with h | h
  · exact h
  · rw [h.2.1] at c
    exact absurd c (by decide)
theorem rn_no {P : Bool} {x : Int32} {V : Nat} {M M2 : Prop} (h : (P = true ∧ x.toInt = ((min V 1000 : Nat) : Int) ∧ M) ∨ (P = false ∧ x = -1 ∧ M2)) (c : ¬ 0 ≤ x) : P = false ∧ M2 := by
  rcases h with h | h
  · exfalso
    apply c
    rw [Int32.le_iff_toInt_le, h.2.1]
    have z : (0 : Int32).toInt = 0 := rfl
    omega
  · exact ⟨h.1, h.2.2⟩
theorem rd_stiff {I : IM} {T e : Nat} {D : DR} {v : Int32} {V : Nat} (h : RdI I T e D) (hv : v.toInt = (V : Int)) (h20 : V ≤ 20) : RdI (u2 I 14 6 v) T e (D.1, D.2.1, (V : Int)) := by
  obtain ⟨h1, h2, h3, h4, h5, h6⟩ := h
  exact ⟨by rw [u2_n1 (by decide)]; exact h1, by rw [u2_n1 (by decide)]; exact h2, h3, h4, okD_f h5 h20, dr_stiff h6 hv⟩
theorem rd_weight {I : IM} {T e p : Nat} {D : DR} {v : Int32} {V : Nat} (h : RdI I T e D) (hv : v.toInt = (V : Int)) (h50 : V ≤ 50) : RdI (u2 I 19 p v) T e (D.1, updZ D.2.1 p (V : Int), D.2.2) := by
  obtain ⟨h1, h2, h3, h4, h5, h6⟩ := h
  exact ⟨by rw [u2_n1 (by decide)]; exact h1, by rw [u2_n1 (by decide)]; exact h2, h3, h4, okD_w h5 h50, dr_weight h6 hv⟩
theorem rd_bear {I : IM} {T e p : Nat} {D : DR} {x v : Int32} {z : Int} (h : RdI I T e D) (h6 : D.1.length < 6) (hp : p < 13) (hx : x = nI p) (hno : hasP D.1 p = false) (hv : v.toInt = z) (hz : -50 ≤ z ∧ z ≤ 50) {g3 g4 : Nat → Int32} : RdI (u2 (m4 I 14 (insF (I (14 + 1)) (cntL (I (14 + 1)) x (foldI D.1).1) (foldI D.1).1 x) (insF (I (14 + 2)) (cntL (I (14 + 1)) x (foldI D.1).1) (foldI D.1).1 v) g3 g4) 14 0 (nI ((foldI D.1).1 + 1))) T e (D.1 ++ [(p, z)], D.2) := by
  obtain ⟨h1, h2, h3, h4, h5, h7⟩ := h
  subst hv
  exact ⟨by rw [u2_n1 (by decide), m4_5 (Or.inl (by decide))]; exact h1, by rw [u2_n1 (by decide), m4_5 (Or.inl (by decide))]; exact h2, h3, h4, okD_b h5 h6 hp hno hz, dr_bear h7 h5 hp hx⟩
