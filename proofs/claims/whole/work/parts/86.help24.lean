theorem rn_yes {P : Bool} {x : Int32} {V : Nat} {M M2 : Prop} (h : (P = true ∧ x.toInt = ((min V 1000 : Nat) : Int) ∧ M) ∨ (P = false ∧ x = -1 ∧ M2)) (c : 0 ≤ x) : P = true ∧ x.toInt = ((min V 1000 : Nat) : Int) ∧ M := by
  rcases h with h | h
  · exact h
  · rw [h.2.1] at c
    exact absurd c (by decide)
theorem rn_no {P : Bool} {x : Int32} {V : Nat} {M M2 : Prop} (h : (P = true ∧ x.toInt = ((min V 1000 : Nat) : Int) ∧ M) ∨ (P = false ∧ x = -1 ∧ M2)) (c : ¬ 0 ≤ x) : P = false ∧ M2 := by
  rcases h with h | h
  · exfalso
    apply c
    rw [Int32.le_iff_toInt_le, h.2.1]
    have z : (0 : Int32).toInt = 0 := rfl
    omega
  · exact ⟨h.1, h.2.2⟩
theorem rd_stiff {I : IM} {T e : Nat} {D : DR} {v : Int32} {V : Nat} (h : RdI I T e D) (hv : v.toInt = (V : Int)) (h20 : V ≤ 20) : RdI (u2 I 14 6 v) T e (D.1, D.2.1, (V : Int)) := by
  obtain ⟨h1, h2, h3, h4, h5, h6⟩ := h
  exact ⟨by rw [u2_n1 (by decide)]; exact h1, by rw [u2_n1 (by decide)]; exact h2, h3, h4, okD_f h5 h20, dr_stiff h6 hv⟩
theorem rd_weight {I : IM} {T e p : Nat} {D : DR} {v : Int32} {V : Nat} (h : RdI I T e D) (hv : v.toInt = (V : Int)) (h50 : V ≤ 50) : RdI (u2 I 19 p v) T e (D.1, updZ D.2.1 p (V : Int), D.2.2) := by
  obtain ⟨h1, h2, h3, h4, h5, h6⟩ := h
  exact ⟨by rw [u2_n1 (by decide)]; exact h1, by rw [u2_n1 (by decide)]; exact h2, h3, h4, okD_w h5 h50, dr_weight h6 hv⟩
theorem rd_bear {I : IM} {T e p : Nat} {D : DR} {x v : Int32} {z : Int} (h : RdI I T e D) (h6 : D.1.length < 6) (hp : p < 13) (hx : x = nI p) (hno : hasP D.1 p = false) (hv : v.toInt = z) (hz : -50 ≤ z ∧ z ≤ 50) {g3 g4 : Nat → Int32} : RdI (u2 (m4 I 14 (insF (I (14 + 1)) (cntL (I (14 + 1)) x (foldI D.1).1) (foldI D.1).1 x) (insF (I (14 + 2)) (cntL (I (14 + 1)) x (foldI D.1).1) (foldI D.1).1 v) g3 g4) 14 0 (nI ((foldI D.1).1 + 1))) T e (D.1 ++ [(p, z)], D.2) := by
  obtain ⟨h1, h2, h3, h4, h5, h7⟩ := h
  subst hv
  exact ⟨by rw [u2_n1 (by decide), m4_5 (Or.inl (by decide))]; exact h1, by rw [u2_n1 (by decide), m4_5 (Or.inl (by decide))]; exact h2, h3, h4, okD_b h5 h6 hp hno hz, dr_bear h7 h5 hp hx⟩
theorem lks_no {x : Int32} (h : ¬ x = 98 ∧ ¬ x = 119 ∧ ¬ x = 102) : Op.lookupswitch.offset (#[(98, 36), (102, 69), (119, 64)] : Array (Int × Int)).toList 74 x.toInt = 74 := by
  have e1 : ¬ (98 : Int) = x.toInt := fun q => h.1 (Int32.toInt_inj.mp q.symm)
  have e2 : ¬ (102 : Int) = x.toInt := fun q => h.2.2 (Int32.toInt_inj.mp q.symm)
  have e3 : ¬ (119 : Int) = x.toInt := fun q => h.2.1 (Int32.toInt_inj.mp q.symm)
  show (if (98 : Int) = x.toInt then (36 : Int) else if (102 : Int) = x.toInt then 69 else if (119 : Int) = x.toInt then 64 else 74) = 74
  rw [if_neg e1, if_neg e2, if_neg e3]
theorem four_x (x : Int32) : x = 98 ∨ x = 119 ∨ x = 102 ∨ (¬ x = 98 ∧ ¬ x = 119 ∧ ¬ x = 102) := by
  by_cases h1 : x = 98
  · exact Or.inl h1
  · by_cases h2 : x = 119
    · exact Or.inr (Or.inl h2)
    · by_cases h3 : x = 102
      · exact Or.inr (Or.inr (Or.inl h3))
      · exact Or.inr (Or.inr (Or.inr ⟨h1, h2, h3⟩))
theorem skB_idem {f : Nat → Int32} {a T : Nat} (h : a ≤ T) : skB f (skB f a T) T = skB f a T := by
  have key : ∀ n b, b ≤ T → n = T - b → skB f (skB f b T) T = skB f b T := by
    intro n
    induction n with
    | zero =>
      intro b hb hn
      have e : skB f b T = b := skB_st (fun q => by omega)
      rw [e, e]
    | succ n ih =>
      intro b hb hn
      by_cases c : b < T ∧ f b = 32
      · rw [skB_go c.1 c.2]
        exact ih (b + 1) (by omega) (by omega)
      · have e := skB_st c
        rw [e, e]
  exact key _ a h rfl
theorem pB2_b {f : Nat → Int32} {T a p P : Nat} {D : DR} {bb : Bool} (h61 : nxt f (skB f a T) T = 61) (ht : bb = true → nxt f (skB f (skB f a T + 1) T) T = 45 ∧ P = skB f (skB f (skB f a T + 1) T + 1) T) (hf : bb = false → ¬ nxt f (skB f (skB f a T + 1) T) T = 45 ∧ P = skB f (skB f a T + 1) T) : pB2 f T a p D = if isDg f P T = true then (if (numZ f T P).2 ≤ 50 then ((numZ f T P).1, some (D.1 ++ [(p, if bb = true then -((numZ f T P).2 : Int) else ((numZ f T P).2 : Int))], D.2)) else (P, none)) else (P, none) := by
  unfold pB2
  rw [if_pos h61]
  cases bb with
  | true =>
    obtain ⟨h1, h2⟩ := ht rfl
    subst h2
    rw [if_pos h1]
    rfl
  | false =>
    obtain ⟨h1, h2⟩ := hf rfl
    subst h2
    rw [if_neg h1]
    rfl
theorem a4_of {I : IM} {s : Nat} {bb : Bool} {A B : Prop} (ht : bb = true → A ∧ I 13 3 = nI (s + 1)) (hf : bb = false → B ∧ I 13 3 = nI s) : ∃ a4, I 13 3 = nI a4 ∧ (bb = true → a4 = s + 1 ∧ A) ∧ (bb = false → a4 = s ∧ B) := by
  cases bb with
  | true => exact ⟨s + 1, (ht rfl).2, fun _ => ⟨rfl, (ht rfl).1⟩, fun c => by cases c⟩
  | false => exact ⟨s, (hf rfl).2, fun c => (by cases c), fun _ => ⟨rfl, (hf rfl).1⟩⟩
theorem neg_small {x : Int32} {V : Nat} (h : x.toInt = (V : Int)) (hV : V ≤ 50) : (-x).toInt = -(V : Int) := by
  rw [Int32.toInt_neg, h, Int.bmod_eq_of_le] <;> omega
theorem to_nI {x : Int32} {V : Nat} (h : x.toInt = (V : Int)) : x = nI V := by
  have hb := Int32.toInt_lt x
  apply Int32.toInt_inj.mp
  rw [nI_toInt (by omega), h]
