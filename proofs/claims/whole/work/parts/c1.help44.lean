theorem nx0_0 {f : Nat → Int32} {a T : Nat} (hch : ∀ k, k < T → ¬ f k = 0) (h : nx0 f a T = 0) : T ≤ a := by
  unfold nx0 at h
  split at h
  · exact absurd h (hch a (by assumption))
  · omega
theorem nx0_n {f : Nat → Int32} {a T : Nat} (h : ¬ nx0 f a T = 0) : ¬ T ≤ a := by
  unfold nx0 at h
  split at h
  · omega
  · exact absurd rfl h
def frW (m : Nat) (I I' : IM) : Prop := ∀ c k, (c < m ∨ (c = m ∧ k ≠ 9 ∧ k ≠ 10 ∧ k ≠ 11 ∧ k ≠ 12 ∧ k ≠ 16) ∨ (m < c ∧ c < m + 8) ∨ m + 10 < c) → I' c k = I c k
def endM (m : Nat) (I : IM) (w : Int32) : IM := u2 (u2 I m 11 w) m 9 0
theorem endM_o {m : Nat} {I : IM} {w : Int32} {c k : Nat} (h : c ≠ m ∨ (k ≠ 11 ∧ k ≠ 9)) : endM m I w c k = I c k := by
  unfold endM u2
  rw [if_neg (by omega), if_neg (by omega)]
theorem endM_w {m : Nat} {I : IM} {w : Int32} : endM m I w m 11 = w := by
  unfold endM
  rw [u2_n2 (by decide), u2_s]
theorem endM_t {m : Nat} {I : IM} {w : Int32} : endM m I w m 9 = 0 := u2_s
theorem endM_F {m : Nat} {I I5 : IM} {w : Int32} (h : frM m I I5) : frW m I (endM m I5 w) := fun c k q => by
  rw [endM_o (by omega)]
  exact h c k (by omega)
theorem endM_D {m : Nat} {I : IM} {w s0 : Int32} {D : DR} (h : DrM I m s0 D) : DrM (endM m I w) m s0 D := by
  obtain ⟨h1, h2, h3, h4⟩ := h
  refine ⟨by rw [endM_o (by omega)]; exact h1, fun k x e => ?_, fun p hp => ?_, by rw [endM_o (by omega)]; exact h4⟩
  · rw [endM_o (by omega), endM_o (by omega)]; exact h2 k x e
  · rw [endM_o (by omega)]; exact h3 p hp
theorem rea_no {sh : Sh} {I I6 : IM} {L : LM} {R : RM} {m T e : Nat} (f : frW m I I6) (t6 : I6 m 9 = 0) (a6 : I6 m 10 = nI e) (hp : pTx (I (m + 7)) T 19 0 dr0 = (e, none)) : reaM sh I L R m T (some (.int (-20 - I6 m 10))) sh I6 L R :=
  ⟨rfl, rfl, rfl, t6, fun a k q => f a k (by omega), Or.inr ⟨e, hp, by rw [a6], f _ _ (by omega), f _ _ (by omega), fun a k h1 h2 => f a k (by omega)⟩⟩
theorem rea_ok {sh : Sh} {I I6 I7 I' : IM} {L : LM} {R : RM} {m T e : Nat} {D : DR} (hZ : LinZ I7 m (foldI D.1)) (o7 : ∀ c k, (c < m ∨ (c = m ∧ k ≠ 0) ∨ m + 4 < c) → I7 c k = I6 c k) (f : frW m I I6) (t6 : I6 m 9 = 0) (d : DrM I6 m (I m 7) D) (hk : okD D) (hp : pTx (I (m + 7)) T 19 0 dr0 = (e, some D)) (hI : I' = u2 (u1 I7 (m + 5) (fun j => if j < 13 then I7 (m + 10) j else I7 (m + 5) j)) m 7 (u1 I7 (m + 5) (fun j => if j < 13 then I7 (m + 10) j else I7 (m + 5) j) m 16)) : reaM sh I L R m T (some (.int (I' m 0))) sh I' L R := by
  obtain ⟨⟨z0, z1, z2⟩, z3⟩ := hZ
  have h0 : ∀ c k, (c ≠ m ∨ k ≠ 7) → c ≠ m + 5 → I' c k = I7 c k := fun c k q1 q2 => by
    rw [hI]
    unfold u2
    rw [if_neg (by omega), u1_n q2]
  have h5 : ∀ p, p < 13 → I' (m + 5) p = I7 (m + 10) p := fun p hp => by
    rw [hI, u2_n1 (by omega), u1_s, if_pos hp]
  have h7 : I' m 7 = I7 m 16 := by
    rw [hI, u2_s, u1_n (by omega)]
  refine ⟨rfl, rfl, rfl, ?_, fun a k q => ?_, Or.inl ⟨e, D, hp, hk, ?_, ⟨⟨?_, fun k hk => ?_, fun k hk => ?_⟩, fun k hk => ?_⟩, fun p hp => ?_, ?_⟩⟩
  · rw [h0 _ _ (by omega) (by omega), o7 _ _ (by omega)]; exact t6
  · rw [h0 _ _ (by omega) (by omega), o7 _ _ (by omega)]; exact f _ _ (by omega)
  · rw [h0 _ _ (by omega) (by omega), z0]
  · rw [h0 _ _ (by omega) (by omega)]; exact z0
  · rw [h0 _ _ (by omega) (by omega)]; exact z1 k hk
  · rw [h0 _ _ (by omega) (by omega)]; exact z2 k hk
  · rw [h0 _ _ (by omega) (by omega), h0 _ _ (by omega) (by omega)]; exact z3 k hk
  · rw [h5 p hp, o7 _ _ (by omega)]; exact d.2.2.1 p hp
  · rw [h7, o7 _ _ (by omega)]; exact d.2.2.2
theorem LinZ_0 {I : IM} {m : Nat} : LinZ (u2 I m 0 0) m (foldI []) := ⟨⟨u2_s, fun k hk => absurd hk (Nat.not_lt_zero k), fun k hk => absurd hk (Nat.not_lt_zero k)⟩, fun k hk => absurd hk (Nat.not_lt_zero k)⟩
theorem linM_s {I7 I6 : IM} {m b : Nat} {D : DR} {s0 : Int32} {x : Nat × Int} (hZ : LinZ I7 m (foldI (D.1.take b))) (o7 : ∀ c k, (c < m ∨ (c = m ∧ k ≠ 0) ∨ m + 4 < c) → I7 c k = I6 c k) (d : DrM I6 m s0 D) (hk : okD D) (hb : b < D.1.length) (ex : D.1[b]? = some x) : LinZ (insM I7 m b (I7 (m + 8) b) (I7 (m + 9) b)) m (foldI (D.1.take (b + 1))) := by
  have h1 := d.2.1 b x ex
  rw [← o7 _ _ (by omega), ← o7 _ _ (by omega)] at h1
  have hok : okI (insT (foldI (D.1.take b)) x) := by
    rw [← foldI_s, ← take_s ex]
    exact okI_take hk.1 (D.1.length - (b + 1)) (b + 1) (by omega)
  rw [take_s ex, foldI_s, h1.1]
  have hx : (x.1, (I7 (m + 9) b).toInt) = x := by rw [h1.2]
  have hn : (foldI (D.1.take b)).1 = b := by rw [foldI_l, List.length_take]; omega
  have := linM_ins (p := x.1) (v := I7 (m + 9) b) hZ (by rw [hx]; exact hok)
  rw [hx, hn] at this
  exact this
theorem RdM_0 {I I0 I1 : IM} {m T : Nat} (h9 : I m 9 = nI T) (hT : T ≤ 120) (e0 : I0 = u2 (u2 (u2 (u2 I m 10 0) m 11 0) m 12 0) m 16 (u2 (u2 (u2 I m 10 0) m 11 0) m 12 0 m 7)) (e1 : I1 = u1 I0 (m + 10) (fun j => if j < 13 then 0 else I0 (m + 10) j)) : RdM I1 m T 0 (I m 7) dr0 ∧ frM m I I1 := by
  have hm : ∀ k, I1 m k = I0 m k := fun k => by rw [e1, u1_n (by omega)]
  refine ⟨⟨?_, ?_, ?_, Nat.zero_le _, hT, okD_0, ?_, fun k x ex => (by cases ex), fun p hp => ?_, ?_⟩, fun c k q => ?_⟩
  · rw [hm, e0, u2_n2 (by decide), u2_n2 (by decide), u2_n2 (by decide), u2_n2 (by decide)]; exact h9
  · rw [hm, e0, u2_n2 (by decide), u2_n2 (by decide), u2_n2 (by decide), u2_s]; rfl
  · rw [hm, e0, u2_n2 (by decide), u2_n2 (by decide), u2_s]
  · rw [hm, e0, u2_n2 (by decide), u2_s]; rfl
  · rw [e1, u1_s, if_pos hp]; rfl
  · rw [hm, e0, u2_s, u2_n2 (by decide), u2_n2 (by decide), u2_n2 (by decide)]
    exact (if_neg (Int.lt_irrefl 0)).symm
  · rw [e1, u1_n (by omega), e0]
    unfold u2
    rw [if_neg (by omega), if_neg (by omega), if_neg (by omega), if_neg (by omega)]
