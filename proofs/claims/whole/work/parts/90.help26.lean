/-! the class's line becomes its draft -/
theorem cntN_top {q : Nat → Nat} {n i : Nat} (h : incN q n) (hi : i < n) : ∀ k, k ≤ i → cntN q (q i) k = k
  | 0, _ => rfl
  | k + 1, hk => by
    simp only [cntN]
    rw [cntN_top h hi k (by omega), if_pos (incN_l h (by omega) hi)]
theorem insG_top {α : Type} {f : Nat → α} {i k : Nat} (hk : k < i + 1) : insG f i (f i) k = f k := by
  rcases Nat.lt_or_ge k i with c | c
  · exact insG_lt c
  · have : k = i := by omega
    rw [this, insG_m]
def bcI' (I I2 : IM) (i : Nat) (S : SL3) : Prop := LinS I2 1 (i, S.2.1, S.2.2) ∧ (∀ k, k < i → I2 4 k = 0 ∧ I2 5 k = 0) ∧ I2 1 6 = I 1 6 ∧ ∀ a k, (a = 0 ∨ 6 < a) → I2 a k = I a k
theorem bc_0 {I : IM} {S : SL3} : bcI' I (u1 (u2 I 1 0 0) (1 + 5) (fun j => if j < 13 then 0 else I (1 + 5) j)) 0 S := by
  refine ⟨⟨?_, fun k hk => absurd hk (Nat.not_lt_zero _), fun k hk => absurd hk (Nat.not_lt_zero _)⟩, fun k hk => absurd hk (Nat.not_lt_zero _), ?_, fun a k h => ?_⟩
  · rw [u1_n (by decide), u2_s]
    rfl
  · rw [u1_n (by decide), u2_n2 (by decide)]
  · rw [u1_n (by omega), u2_n1 (by omega)]
theorem bc_s {I I2 : IM} {i : Nat} {S : SL3} {x v : Int32} (h : bcI' I I2 i S) (hS : okI S) (hi : i < S.1) (hx : x = nI (S.2.1 i)) (hv : v.toInt = S.2.2 i) : bcI' I (u2 (m4 I2 1 (insF (I2 (1 + 1)) (cntL (I2 (1 + 1)) x i) i x) (insF (I2 (1 + 2)) (cntL (I2 (1 + 1)) x i) i v) (insF (I2 (1 + 3)) (cntL (I2 (1 + 1)) x i) i 0) (insF (I2 (1 + 4)) (cntL (I2 (1 + 1)) x i) i 0)) 1 0 (nI (i + 1))) (i + 1) S := by
  obtain ⟨h1, h2, h3, h4⟩ := h
  have hq : ∀ k, k < S.1 → S.2.1 k < 13 := hS.2.1.1
  have hc : cntL (I2 (1 + 1)) x i = i := by
    rw [hx, cntL_N (hq i hi) i h1.2.1 (fun k hk => hq k (by omega))]
    exact cntN_top hS.2.1 hi i (Nat.le_refl _)
  have hL := lin_ins (v := v) (g3 := insF (I2 (1 + 3)) (cntL (I2 (1 + 1)) x i) i 0) (g4 := insF (I2 (1 + 4)) (cntL (I2 (1 + 1)) x i) i 0) h1 (fun k hk => hq k (by show k < S.1; have hk : k < i := hk; omega)) (hq i hi) hx
  have hc2 : cntN S.2.1 (S.2.1 i) i = i := cntN_top hS.2.1 hi i (Nat.le_refl _)
  refine ⟨⟨hL.1, fun k hk => ?_, fun k hk => ?_⟩, fun k hk => ?_, ?_, fun a k ha => ?_⟩
  · have hk : k < i + 1 := hk
    have e := hL.2.1 k hk
    rw [show (insT (i, S.2.1, S.2.2) (S.2.1 i, v.toInt)).2.1 k = insG S.2.1 (cntN S.2.1 (S.2.1 i) i) (S.2.1 i) k from rfl, hc2, insG_top hk] at e
    exact e
  · have hk : k < i + 1 := hk
    have e := hL.2.2 k hk
    rw [show (insT (i, S.2.1, S.2.2) (S.2.1 i, v.toInt)).2.2 k = insG S.2.2 (cntN S.2.1 (S.2.1 i) i) v.toInt k from rfl, hc2, hv, insG_top hk] at e
    exact e
  · rw [u2_n1 (by decide), u2_n1 (by decide)]
    show m4 I2 1 _ _ _ _ (1 + 3) k = 0 ∧ m4 I2 1 _ _ _ _ (1 + 4) k = 0
    rw [m4_3, m4_4, hc, insF_G (Nat.le_refl _) (by omega), insF_G (Nat.le_refl _) (by omega)]
    rcases Nat.lt_or_ge k i with c | c
    · rw [insG_lt c, insG_lt c]
      exact h2 k c
    · have : k = i := by omega
      rw [this, insG_m, insG_m]
      exact ⟨rfl, rfl⟩
  · rw [u2_n2 (by decide), m4_0]
    exact h3
  · rw [u2_n1 (by omega), m4_5 (by omega)]
    exact h4 a k ha
def bcmP (sh : Sh) (I : IM) (L : LM) (R : RM) (S : SL3) : PPost := fun ret sh' I' L' R' => ret = none ∧ sh' = sh ∧ R' = R ∧ L' = L ∧ LinS I' 1 S ∧ (∀ k, k < S.1 → I' 4 k = 0 ∧ I' 5 k = 0) ∧ (∀ p, p < 13 → I' 6 p = I 19 p) ∧ (I' 1 6 = if 0 < I 14 6 then I 14 6 else I 1 6) ∧ ∀ a k, (a = 0 ∨ 6 < a) → I' a k = I a k
/-- weights, one after the other -/
def bwI (I I2 : IM) (p : Nat) : IM := u1 I2 6 (fun j => if j < p then I 19 j else I2 6 j)
theorem bwI_0 {I I2 : IM} : I2 = bwI I I2 0 := u1_noneF (fun _ => rfl)
theorem bwI_s {I I2 : IM} {p : Nat} {x : Int32} (hx : x = I 19 p) : u2 (bwI I I2 p) 6 p x = bwI I I2 (p + 1) := by
  subst hx
  exact u1_stepF
theorem bwI_o {I I2 : IM} {p a k : Nat} (h : a ≠ 6) : bwI I I2 p a k = I2 a k := u1_n h
theorem bc_end {sh : Sh} {I I2 : IM} {L : LM} {R : RM} {S : SL3} (h : bcI' I I2 S.1 S) (hs : ¬ 0 < I 14 6) : bcmP sh I L R S none sh (bwI I I2 13) L R := by
  obtain ⟨h1, h2, h3, h4⟩ := h
  refine ⟨rfl, rfl, rfl, rfl, ⟨?_, fun k hk => ?_, fun k hk => ?_⟩, fun k hk => ?_, fun p hp => ?_, ?_, fun a k ha => ?_⟩
  · rw [bwI_o (by decide)]; exact h1.1
  · rw [bwI_o (by decide)]; exact h1.2.1 k hk
  · rw [bwI_o (by decide)]; exact h1.2.2 k hk
  · rw [bwI_o (by decide), bwI_o (by decide)]; exact h2 k hk
  · unfold bwI
    rw [u1_s, if_pos hp]
  · rw [bwI_o (by decide), h3, if_neg hs]
  · rw [bwI_o (by omega)]; exact h4 a k ha
theorem bc_end2 {sh : Sh} {I I2 : IM} {L : LM} {R : RM} {S : SL3} {x : Int32} (h : bcI' I I2 S.1 S) (hs : 0 < I 14 6) (hx : x = I 14 6) : bcmP sh I L R S none sh (u2 (bwI I I2 13) 1 6 x) L R := by
  obtain ⟨h1, h2, h3, h4⟩ := h
  refine ⟨rfl, rfl, rfl, rfl, ⟨?_, fun k hk => ?_, fun k hk => ?_⟩, fun k hk => ?_, fun p hp => ?_, ?_, fun a k ha => ?_⟩
  · rw [u2_n2 (by decide), bwI_o (by decide)]; exact h1.1
  · rw [u2_n1 (by decide), bwI_o (by decide)]; exact h1.2.1 k hk
  · rw [u2_n1 (by decide), bwI_o (by decide)]; exact h1.2.2 k hk
  · rw [u2_n1 (by decide), bwI_o (by decide), u2_n1 (by decide), bwI_o (by decide)]; exact h2 k hk
  · rw [u2_n1 (by decide)]
    unfold bwI
    rw [u1_s, if_pos hp]
  · rw [u2_s, hx, if_pos hs]
  · rw [u2_n1 (by omega), bwI_o (by omega)]; exact h4 a k ha
/-- facts do not speak of the reader's text -/
theorem LineF_R {sh : Sh} {R R' : RM} {b : Nat} (h : LineF sh R b) (e : ∀ k, R' b k = R b k) : LineF sh R' b := by
  obtain ⟨f0, f1, f2, f3, f4, f5, g1, g2, g3, g4, g5⟩ := h
  exact ⟨f0, f1, f2, f3, f4, f5, by rw [e]; exact g1, by rw [e]; exact g2, by rw [e]; exact g3, by rw [e]; exact g4, by rw [e]; exact g5⟩
theorem BeamF_R {sh : Sh} {R R' : RM} {b : Nat} (h : BeamF sh R b) (e : ∀ k, R' b k = R b k) : BeamF sh R' b := by
  obtain ⟨f0, f1, f2, f3, f4, f5, f6, f7, f8, f9, f10, f11, g1, g2, g3, g9, g10, g11, g12, g13, g14, g15, g16⟩ := h
  exact ⟨f0, f1, f2, f3, f4, f5, f6, f7, f8, f9, f10, f11, by rw [e]; exact g1, by rw [e]; exact g2, by rw [e]; exact g3, by rw [e]; exact g9, by rw [e]; exact g10, by rw [e]; exact g11, by rw [e]; exact g12, by rw [e]; exact g13, by rw [e]; exact g14, by rw [e]; exact g15, by rw [e]; exact g16⟩
theorem RestF_R {sh : Sh} {R R' : RM} {r : Nat} (h : RestF sh R r) (e : ∀ k, R' r k = R r k) (e1 : ∀ k, R' (r + 1) k = R (r + 1) k) : RestF sh R' r := by
  obtain ⟨q0, q1, hB, q13, q14, q15, p2, p3, p4⟩ := h
  exact ⟨q0, by rw [e]; exact q1, BeamF_R hB e1, q13, q14, q15, by rw [e]; exact p2, by rw [e]; exact p3, by rw [e]; exact p4⟩
theorem PlanF_R {sh : Sh} {R R' : RM} {b : Nat} (h : PlanF sh R b) (e : ∀ k, k ≠ 2 → R' b k = R b k) : PlanF sh R' b := by
  obtain ⟨f0, f1, f2, f3, f4, f5, f6, f7, f8, f9, g1, g2, g3, g4, g5, g6, g7, g8, g9⟩ := h
  exact ⟨f0, f1, f2, f3, f4, f5, f6, f7, f8, f9, by rw [e _ (by decide)]; exact g1, by rw [e _ (by decide)]; exact g2, by rw [e _ (by decide)]; exact g3, by rw [e _ (by decide)]; exact g4, by rw [e _ (by decide)]; exact g5, by rw [e _ (by decide)]; exact g6, by rw [e _ (by decide)]; exact g7, by rw [e _ (by decide)]; exact g8, by rw [e _ (by decide)]; exact g9⟩
theorem ClassF_R {sh : Sh} {R R' : RM} (h : ClassF sh R) (e : ∀ a k, a ≠ 13 → a ≠ 61 → R' a k = R a k) : ClassF sh R' := by
  obtain ⟨k0, r0, r1, r2, r4, r5, r6, r7, r8, r13, r15, r16, hL, k7, r7s, k8s, k12, k20, r20s, hSs, k71, k72⟩ := h
  refine ⟨k0, ?_, ?_, ?_, ?_, ?_, ?_, ?_, ?_, ?_, ?_, ?_, LineF_R hL (fun k => e _ _ (by decide) (by decide)), k7, fun s hs => ?_, k8s, k12, k20, fun s hs => ?_, fun s hs => ?_, k71, k72⟩
  · rw [e _ _ (by decide) (by decide)]; exact r0
  · rw [e _ _ (by decide) (by decide)]; exact r1
  · rw [e _ _ (by decide) (by decide)]; exact r2
  · rw [e _ _ (by decide) (by decide)]; exact r4
  · rw [e _ _ (by decide) (by decide)]; exact r5
  · rw [e _ _ (by decide) (by decide)]; exact r6
  · rw [e _ _ (by decide) (by decide)]; exact r7
  · rw [e _ _ (by decide) (by decide)]; exact r8
  · rw [e _ _ (by decide) (by decide)]; exact r13
  · rw [e _ _ (by decide) (by decide)]; exact r15
  · rw [e _ _ (by decide) (by decide)]; exact r16
  · rw [e _ _ (by decide) (by decide)]; exact r7s s hs
  · rw [e _ _ (by decide) (by decide)]; exact r20s s hs
  · obtain ⟨a1, a2, a3⟩ := hSs s hs
    exact ⟨a1, a2, by rw [e _ _ (by omega) (by omega)]; exact a3⟩
theorem ClsF_R {sh : Sh} {R R' : RM} (h : ClsF sh R) (e : ∀ a k, a ≠ 13 → (a ≠ 61 ∨ k ≠ 2) → R' a k = R a k) : ClsF sh R' := by
  obtain ⟨h1, h2, h3, h4, h5⟩ := h
  exact ⟨ClassF_R h1 (fun a k c1 c2 => e a k c1 (Or.inl c2)), BeamF_R h2 (fun k => e _ _ (by decide) (Or.inl (by decide))), BeamF_R h3 (fun k => e _ _ (by decide) (Or.inl (by decide))), RestF_R h4 (fun k => e _ _ (by decide) (Or.inl (by decide))) (fun k => e _ _ (by decide) (Or.inl (by decide))), PlanF_R h5 (fun k hk => e _ _ (by decide) (Or.inr hk))⟩
theorem ClsF_t {sh : Sh} {R : RM} (h : ClsF sh R) : ClsF sh (u2 R 13 1 (some 12)) := ClsF_R h (fun a k h1 _ => u2_n1 h1)
/-- read's answer and what it leaves -/
def reaP (sh : Sh) (I : IM) (L : LM) (R : RM) (T : Nat) : PPost := fun ret sh' I' L' R' => sh' = sh ∧ R' = u2 R 13 1 (some 12) ∧ L' = L ∧ I' 0 3 = 0 ∧ (∀ a k, (6 < a ∧ a < 13 ∨ 19 < a ∨ (a = 0 ∧ k ≠ 3 ∧ k ≠ 9 ∧ k ≠ 14)) → I' a k = I a k) ∧
  ((∃ e D', pTx (I 12) T 19 0 dr0 = (e, some D') ∧ okD D' ∧ ret = some (.int (nI (foldI D'.1).1)) ∧ I' 0 9 = -1 ∧ I' 0 14 = 0 ∧ LinS I' 1 (foldI D'.1) ∧ (∀ k, k < (foldI D'.1).1 → I' 4 k = 0 ∧ I' 5 k = 0) ∧ (∀ p, p < 13 → (I' 6 p).toInt = D'.2.1 p) ∧ ((I' 1 6).toInt = if 0 < D'.2.2 then D'.2.2 else (I 1 6).toInt)) ∨
   (∃ e, pTx (I 12) T 19 0 dr0 = (e, none) ∧ ret = some (.int (-20 - nI e)) ∧ ∀ a k, (a < 13 ∨ 19 < a) → (a ≠ 0 ∨ k ≠ 3) → I' a k = I a k))
