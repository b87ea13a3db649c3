/-! the model's draft -/
def DrM (I : IM) (m : Nat) (s0 : Int32) (D : DR) : Prop := I m 12 = nI D.1.length ∧ (∀ k x, D.1[k]? = some x → I (m + 8) k = nI x.1 ∧ (I (m + 9) k).toInt = x.2) ∧ (∀ p, p < 13 → (I (m + 10) p).toInt = D.2.1 p) ∧ (I m 16).toInt = if 0 < D.2.2 then D.2.2 else s0.toInt
def RdM (I : IM) (m T a : Nat) (s0 : Int32) (D : DR) : Prop := I m 9 = nI T ∧ I m 10 = nI a ∧ I m 11 = 0 ∧ a ≤ T ∧ T ≤ 120 ∧ okD D ∧ DrM I m s0 D
def frM (m : Nat) (I I' : IM) : Prop := ∀ c k, (c < m ∨ (c = m ∧ k ≠ 10 ∧ k ≠ 11 ∧ k ≠ 12 ∧ k ≠ 16) ∨ (m < c ∧ c < m + 8) ∨ m + 10 < c) → I' c k = I c k
theorem frM_t {m : Nat} {I I' I'' : IM} (h1 : frM m I I') (h2 : frM m I' I'') : frM m I I'' := fun c k q => (h2 c k q).trans (h1 c k q)
theorem frM_N {m : Nat} {I I' : IM} (h : frN m I I') : frM m I I' := fun c k q => h c k (by omega)
theorem frM_f {m : Nat} {I I' : IM} (h : frM m I I') : I' (m + 7) = I (m + 7) := funext fun k => h _ k (by omega)
theorem DrM_N {m : Nat} {I I' : IM} {s0 : Int32} {D : DR} (h : DrM I m s0 D) (f : frN m I I') : DrM I' m s0 D := by
  obtain ⟨h1, h2, h3, h4⟩ := h
  refine ⟨by rw [f _ _ (Or.inr (by decide))]; exact h1, fun k x e => ?_, fun p hp => ?_, by rw [f _ _ (Or.inr (by decide))]; exact h4⟩
  · rw [f _ _ (Or.inl (by omega)), f _ _ (Or.inl (by omega))]; exact h2 k x e
  · rw [f _ _ (Or.inl (by omega))]; exact h3 p hp
theorem RdM_N {m T a b : Nat} {I I' : IM} {s0 : Int32} {D : DR} (h : RdM I m T a s0 D) (f : frN m I I') (h1 : I' m 10 = nI b) (h2 : I' m 11 = 0) (hb : b ≤ T) : RdM I' m T b s0 D := ⟨by rw [f _ _ (Or.inr (by decide))]; exact h.1, h1, h2, hb, h.2.2.2.2.1, h.2.2.2.2.2.1, DrM_N h.2.2.2.2.2.2 f⟩
def clP (sh : Sh) (I : IM) (L : LM) (R : RM) (m T : Nat) (s0 : Int32) (r : Nat × Option DR) : PPost := fun ret sh' I' L' R' => ret = none ∧ sh' = sh ∧ R' = R ∧ L' = L ∧ frM m I I' ∧ ((∃ D', r.2 = some D' ∧ RdM I' m T r.1 s0 D') ∨ (r.2 = none ∧ I' m 11 = 1 ∧ I' m 10 = nI r.1))
theorem rdM_len {m T a : Nat} {I : IM} {s0 : Int32} {D : DR} (h : RdM I m T a s0 D) : D.1.length ≤ 6 := by
  have := h.2.2.2.2.2.1
  rw [← this.2.1]
  exact this.1.1
theorem okD_p {D : DR} (h : okD D) {p : Nat} (hp : hasP D.1 p = true) : p < 13 := by
  obtain ⟨k, hk, e⟩ := (h.2.2.1 p).mp hp
  rw [← e]
  exact h.1.2.1.1 k hk
theorem hasP_i {bs : List (Nat × Int)} {p : Nat} : hasP bs p = true ↔ ∃ (k : Nat) (x : Nat × Int), bs[k]? = some x ∧ x.1 = p := by
  unfold hasP
  rw [List.any_eq_true]
  constructor
  · rintro ⟨x, hx, e⟩
    obtain ⟨k, hk⟩ := List.mem_iff_getElem?.mp hx
    exact ⟨k, x, hk, by simpa using e⟩
  · rintro ⟨k, x, hk, e⟩
    exact ⟨x, List.mem_iff_getElem?.mpr ⟨k, hk⟩, by simpa using e⟩
theorem orB_P {I : IM} {m : Nat} {s0 : Int32} {D : DR} {p : Nat} (h : DrM I m s0 D) (hk : okD D) (hp : p < 13) : orB (fun k => decide (I (m + 8) k = nI p)) D.1.length = true ↔ hasP D.1 p = true := by
  rw [orB_t, hasP_i]
  constructor
  · rintro ⟨k, hk2, e⟩
    obtain ⟨x, ex⟩ : ∃ x, D.1[k]? = some x := ⟨_, List.getElem?_eq_getElem hk2⟩
    have e := of_decide_eq_true e
    rw [(h.2.1 k x ex).1] at e
    have h13 := okD_p hk (hasP_i.mpr ⟨k, x, ex, rfl⟩)
    exact ⟨k, x, ex, (nI_eq (by omega) (by omega)).mp e⟩
  · rintro ⟨k, x, ex, e⟩
    exact ⟨k, (List.getElem?_eq_some_iff.mp ex).1, decide_eq_true (by rw [(h.2.1 k x ex).1, e])⟩
/-- the reader's clauses, in numbers that are -/
theorem pB_ok {f : Nat → Int32} {T a : Nat} {D : DR} (h : okZ f T a 0 12) (h2 : ¬ hasP D.1 (numZ f T (skB f a T)).2 = true) : pB f T a D = pB2 f T (numZ f T (skB f a T)).1 (numZ f T (skB f a T)).2 D := by
  unfold pB
  rw [if_pos h.1, if_pos ⟨h.2.2, by cases e : hasP D.1 (numZ f T (skB f a T)).2 with | false => rfl | true => exact absurd e h2⟩]
theorem pB_no {f : Nat → Int32} {T a : Nat} {D : DR} (h : ¬ (okZ f T a 0 12 ∧ ¬ hasP D.1 (numZ f T (skB f a T)).2 = true)) : pB f T a D = (skB f a T, none) := by
  unfold pB
  split
  · rename_i h1
    split
    · rename_i h2
      exact absurd ⟨⟨h1, Nat.zero_le _, h2.1⟩, by rw [h2.2]; decide⟩ h
    · rfl
  · rfl
theorem pB2_0 {f : Nat → Int32} {T a p : Nat} {D : DR} (h : ¬ nxt f (skB f a T) T = 61) : pB2 f T a p D = (skB f a T, some (D.1 ++ [(p, 0)], D.2)) := by
  unfold pB2
  rw [if_neg h]
theorem pB2_m {f : Nat → Int32} {T a p : Nat} {D : DR} (h : nxt f (skB f a T) T = 61) (h2 : nxt f (skB f (skB f a T + 1) T) T = 45) (h3 : okZ f T (skB f (skB f a T + 1) T + 1) 0 50) : pB2 f T a p D = ((numZ f T (skB f (skB f (skB f a T + 1) T + 1) T)).1, some (D.1 ++ [(p, -((numZ f T (skB f (skB f (skB f a T + 1) T + 1) T)).2 : Int))], D.2)) := by
  unfold pB2
  rw [if_pos h, if_pos h2, if_pos h3.1, if_pos h3.2.2]
theorem pB2_mn {f : Nat → Int32} {T a p : Nat} {D : DR} (h : nxt f (skB f a T) T = 61) (h2 : nxt f (skB f (skB f a T + 1) T) T = 45) (h3 : ¬ okZ f T (skB f (skB f a T + 1) T + 1) 0 50) : pB2 f T a p D = (skB f (skB f (skB f a T + 1) T + 1) T, none) := by
  unfold pB2
  rw [if_pos h, if_pos h2]
  split
  · rename_i h4
    split
    · rename_i h5
      exact absurd ⟨h4, Nat.zero_le _, h5⟩ h3
    · rfl
  · rfl
theorem okZ_i {f : Nat → Int32} {T a lo hi : Nat} (h : a ≤ T) : okZ f T (skB f a T) lo hi ↔ okZ f T a lo hi := by
  unfold okZ
  rw [skB_idem h]
theorem pB2_p {f : Nat → Int32} {T a p : Nat} {D : DR} (h : nxt f (skB f a T) T = 61) (h2 : ¬ nxt f (skB f (skB f a T + 1) T) T = 45) (h3 : okZ f T (skB f a T + 1) 0 50) : pB2 f T a p D = ((numZ f T (skB f (skB f a T + 1) T)).1, some (D.1 ++ [(p, ((numZ f T (skB f (skB f a T + 1) T)).2 : Int))], D.2)) := by
  unfold pB2
  rw [if_pos h, if_neg h2, if_pos h3.1, if_pos h3.2.2]
theorem pB2_pn {f : Nat → Int32} {T a p : Nat} {D : DR} (h : nxt f (skB f a T) T = 61) (h2 : ¬ nxt f (skB f (skB f a T + 1) T) T = 45) (h3 : ¬ okZ f T (skB f a T + 1) 0 50) : pB2 f T a p D = (skB f (skB f a T + 1) T, none) := by
  unfold pB2
  rw [if_pos h, if_neg h2]
  split
  · rename_i h4
    split
    · rename_i h5
      exact absurd ⟨h4, Nat.zero_le _, h5⟩ h3
    · rfl
  · rfl
/-- a bearing more -/
def putM (I : IM) (m n : Nat) (p y : Int32) : IM := u2 (u2 (u2 I (m + 8) n p) (m + 9) n y) m 12 (u2 (u2 I (m + 8) n p) (m + 9) n y m 12 + 1)
theorem putM_fr {I : IM} {m n : Nat} {p y : Int32} : frM m I (putM I m n p y) := fun c k q => by
  unfold putM u2
  rw [if_neg (by omega), if_neg (by omega), if_neg (by omega)]
theorem putM_w {I : IM} {m n : Nat} {p y : Int32} {k : Nat} (hk : k ≠ 12) : putM I m n p y m k = I m k := by
  unfold putM
  rw [u2_n2 hk, u2_n1 (by omega), u2_n1 (by omega)]
theorem cl_bear {sh : Sh} {I I8 : IM} {L : LM} {R : RM} {m T p : Nat} {s0 : Int32} {D : DR} {y : Int32} {r : Nat × Option DR} {e : Nat} {z : Int} (f : frM m I I8) (h : RdM I8 m T e s0 D) (h6 : D.1.length < 6) (hp : p < 13) (hno : ¬ hasP D.1 p = true) (hy : y.toInt = z) (hz : -50 ≤ z ∧ z ≤ 50) (hr : r = (e, some (D.1 ++ [(p, z)], D.2))) : clP sh I L R m T s0 r none sh (putM I8 m D.1.length (nI p) y) L R := by
  subst hr
  obtain ⟨h1, h2, h3, h4, h5, hk, d1, d2, d3, d4⟩ := h
  refine ⟨rfl, rfl, rfl, rfl, frM_t f putM_fr, Or.inl ⟨_, rfl, by rw [putM_w (by decide)]; exact h1, by rw [putM_w (by decide)]; exact h2, by rw [putM_w (by decide)]; exact h3, h4, h5, okD_b hk h6 hp (by cases e : hasP D.1 p with | false => rfl | true => exact absurd e hno) hz, ?_, fun k x ex => ?_, fun q hq => ?_, by rw [putM_w (by decide)]; exact d4⟩⟩
  · unfold putM
    rw [u2_s, u2_n1 (by omega), u2_n1 (by omega), d1, List.length_append]
    exact nI_1 _
  · have e1 : putM I8 m D.1.length (nI p) y (m + 8) k = if k = D.1.length then nI p else I8 (m + 8) k := by
      unfold putM
      rw [u2_n1 (by omega), u2_n1 (by omega)]
      by_cases c : k = D.1.length
      · rw [c, u2_s, if_pos rfl]
      · rw [u2_n2 c, if_neg c]
    have e2 : putM I8 m D.1.length (nI p) y (m + 9) k = if k = D.1.length then y else I8 (m + 9) k := by
      unfold putM
      rw [u2_n1 (by omega)]
      by_cases c : k = D.1.length
      · rw [c, u2_s, if_pos rfl]
      · rw [u2_n2 c, if_neg c, u2_n1 (by omega)]
    rw [e1, e2]
    have ex : (D.1 ++ [(p, z)])[k]? = some x := ex
    rcases Nat.lt_trichotomy k D.1.length with c | c | c
    · rw [List.getElem?_append_left c] at ex
      rw [if_neg (by omega), if_neg (by omega)]
      exact d2 k x ex
    · subst c
      rw [List.getElem?_append_right (Nat.le_refl _), Nat.sub_self] at ex
      cases ex
      rw [if_pos rfl, if_pos rfl]
      exact ⟨rfl, hy⟩
    · rw [List.getElem?_eq_none (by rw [List.length_append]; show D.1.length + 1 ≤ k; omega)] at ex
      cases ex
  · have e3 : putM I8 m D.1.length (nI p) y (m + 10) q = I8 (m + 10) q := by
      unfold putM
      rw [u2_n1 (by omega), u2_n1 (by omega), u2_n1 (by omega)]
    rw [e3]
    exact d3 q hq
theorem cl_fail {sh : Sh} {I I' : IM} {L : LM} {R : RM} {m T : Nat} {s0 : Int32} {r : Nat × Option DR} {e : Nat} (f : frM m I I') (h1 : I' m 11 = 1) (h2 : I' m 10 = nI e) (hr : r = (e, none)) : clP sh I L R m T s0 r none sh I' L R := by
  subst hr
  exact ⟨rfl, rfl, rfl, rfl, f, Or.inr ⟨rfl, h1, h2⟩⟩
/-- wrong and at, both anew -/
def setW (m : Nat) (I : IM) (w z : Int32) : IM := u2 (u2 I m 11 w) m 10 (u2 I m 11 w m 10 + z)
theorem setW_fr {m : Nat} {I : IM} {w z : Int32} : frN m I (setW m I w z) := frN_t (frN_u (Or.inr rfl)) (frN_u (Or.inl rfl))
theorem setW_w {m : Nat} {I : IM} {w z : Int32} : setW m I w z m 11 = w := by
  unfold setW
  rw [u2_n2 (by decide), u2_s]
theorem setW_0 {m e : Nat} {I : IM} {w : Int32} (h : I m 10 = nI e) : setW m I w 0 m 10 = nI e := by
  unfold setW
  rw [u2_s, u2_n2 (by decide), h]
  exact Int32.add_zero _
theorem setW_1 {m e : Nat} {I : IM} {w : Int32} (h : I m 10 = nI e) : setW m I w 1 m 10 = nI (e + 1) := by
  unfold setW
  rw [u2_s, u2_n2 (by decide), h]
  exact nI_1 e
def addA (m : Nat) (I : IM) (z : Int32) : IM := u2 I m 10 (I m 10 + z)
theorem addA_fr {m : Nat} {I : IM} {z : Int32} : frN m I (addA m I z) := frN_u (Or.inl rfl)
theorem addA_w {m : Nat} {I : IM} {z : Int32} : addA m I z m 11 = I m 11 := u2_n2 (by decide)
theorem addA_0 {m e : Nat} {I : IM} (h : I m 10 = nI e) : addA m I 0 m 10 = nI e := by
  unfold addA
  rw [u2_s, h]
  exact Int32.add_zero _
theorem addA_1 {m e : Nat} {I : IM} (h : I m 10 = nI e) : addA m I 1 m 10 = nI (e + 1) := by
  unfold addA
  rw [u2_s, h]
  exact nI_1 e
