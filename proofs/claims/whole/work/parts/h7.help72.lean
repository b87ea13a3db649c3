/-! the line changed on both sides -/
def RelX (a k : Nat) : Prop := (a = 0 ∧ (k = 3 ∨ k = 11 ∨ k = 12)) ∨ a = 12 ∨ a = 70 ∨ (73 ≤ a ∧ a ≤ 80) ∨ (a = 81 ∧ (k = 9 ∨ k = 37 ∨ k = 38)) ∨ a = 88 ∨ a = 103 ∨ (105 ≤ a ∧ a ≤ 107)
def LSA (A : LA) : SL3 := (aN A, aQ A, aO A)
section JN
variable {sh : Sh} {I I' : IM} {L L' : LM} {R R' : RM} {A A' : LA} {lo hi : Int} {T : Nat}
theorem JA_mk (hl : LinS I' 1 (LSA A')) (hl2 : LinS I' 81 (LSA A')) (hW : ∀ p, p < 13 → (I' 6 p).toInt = aW A' p ∧ (I' 86 p).toInt = aW A' p) (hF : (I' 1 6).toInt = aF A' ∧ (I' 81 7).toInt = aF A') (hRi : ∀ s, s < 4 → ∀ p, p < 13 → (I' (8 + s) p).toInt = aR A' s p ∧ (I' 87 (13 * s + p)).toInt = aR A' s p) (hWR : WR I' (aN A')) : JA I' A' :=
  ⟨⟨hl.1, hl.2.1, hl.2.2, fun p hp => (hW p hp).1, hF.1, fun s hs p hp => (hRi s hs p hp).1⟩, ⟨hl2.1, hl2.2.1, hl2.2.2, fun p hp => (hW p hp).2, hF.2, fun s hs p hp => (hRi s hs p hp).2⟩, hWR⟩
theorem JA_un (h : JA I A) : LinS I 1 (LSA A) ∧ LinS I 81 (LSA A) ∧ (∀ p, p < 13 → (I 6 p).toInt = aW A p ∧ (I 86 p).toInt = aW A p) ∧ ((I 1 6).toInt = aF A ∧ (I 81 7).toInt = aF A) ∧ (∀ s, s < 4 → ∀ p, p < 13 → (I (8 + s) p).toInt = aR A s p ∧ (I 87 (13 * s + p)).toInt = aR A s p) ∧ WR I (aN A) := by
  obtain ⟨⟨a1, a2, a3, a4, a5, a6⟩, ⟨b1, b2, b3, b4, b5, b6⟩, c⟩ := h
  exact ⟨⟨a1, a2, a3⟩, ⟨b1, b2, b3⟩, fun p hp => ⟨a4 p hp, b4 p hp⟩, ⟨a5, b5⟩, fun s hs p hp => ⟨a6 s hs p hp, b6 s hs p hp⟩, c⟩
theorem JJ_new (a' : okA A') (hR : JR sh R') (hA : JA I' A') (h2 : JB I lo hi) (h3 : JT I T) (h4 : JS I) (h5 : JZ I) (h9 : I' 0 9 = -1) (h14 : I' 0 14 = 0) (f : ∀ a k, RelX a k → I' a k = I a k) : JJ sh I' L' R' :=
  ⟨A', lo, hi, T, a', hR, hA, JB_fr h2 (fun a k c => f a k (by unfold RelX; omega)), JT_fr h3 (fun a k c => f a k (by unfold RelX; omega)), JS_fr h4 (fun a k c => f a k (by unfold RelX; omega)), JZ_fr h5 (fun a k c => f a k (by unfold RelX; omega)), Or.inl h14, Or.inl h9⟩
theorem lin_fr {b : Nat} {S : SL3} (h : LinS I b S) (f : ∀ a k, ((a = b ∧ k = 0) ∨ a = b + 1 ∨ a = b + 2) → I' a k = I a k) : LinS I' b S := by
  obtain ⟨h1, h2, h3⟩ := h
  refine ⟨by rw [f b 0 (by omega)]; exact h1, fun k hk => ?_, fun k hk => ?_⟩
  · rw [f _ k (by omega)]; exact h2 k hk
  · rw [f _ k (by omega)]; exact h3 k hk
theorem WR_fr {n : Nat} (h : WR I n) (f : ∀ a k, (a = 4 ∨ a = 5 ∨ a = 84 ∨ a = 85) → I' a k = I a k) : WR I' n := fun k hk => by
  rw [f 4 k (by omega), f 5 k (by omega), f 84 k (by omega), f 85 k (by omega)]
  exact h k hk
/-- an OFFSET -/
theorem JJ_off (a : okA A) (hR : JR sh R) (h1 : JA I A) (h2 : JB I lo hi) (h3 : JT I T) (h4 : JS I) (h5 : JZ I) {b : Nat} {v : Int32} (hb : b < aN A) (hv : -50 ≤ v.toInt ∧ v.toInt ≤ 50) : JJ sh (u2 (u2 (forgI I) 3 b v) 83 b v) L R := by
  have f : ∀ a k, a ≠ 3 → a ≠ 83 → (a ≠ 0 ∨ (k ≠ 9 ∧ k ≠ 14)) → u2 (u2 (forgI I) 3 b v) 83 b v a k = I a k := fun a k c1 c2 c3 => by
    unfold forgI u2
    rw [if_neg (by omega), if_neg (by omega), if_neg (by omega), if_neg (by omega)]
  obtain ⟨l1, l2, hW, hF, hRi, hWR⟩ := JA_un h1
  have a' : okA (stO A b v.toInt) := by
    refine ⟨a.1, a.2.1, fun k hk => ?_, a.2.2.2⟩
    show -50 ≤ (if k = b then v.toInt else aO A k) ∧ (if k = b then v.toInt else aO A k) ≤ 50
    split
    · exact hv
    · exact a.2.2.1 k hk
  refine JJ_new a' hR (JA_mk ⟨?_, fun k hk => ?_, fun k hk => ?_⟩ ⟨?_, fun k hk => ?_, fun k hk => ?_⟩ (fun p hp => ?_) ?_ (fun s hs p hp => ?_) (WR_fr hWR (fun a k c => f a k (by omega) (by omega) (by omega)))) h2 h3 h4 h5 rfl rfl (fun a k c => f a k (by unfold RelX at c; omega) (by unfold RelX at c; omega) (by unfold RelX at c; omega))
  · rw [f 1 0 (by omega) (by omega) (by omega)]; exact l1.1
  · rw [f _ k (by omega) (by omega) (by omega)]; exact l1.2.1 k hk
  · show (u2 (u2 (forgI I) 3 b v) 83 b v 3 k).toInt = if k = b then v.toInt else aO A k
    rw [u2_n1 (by decide), upd_toInt, forgI_at (by decide), l1.2.2 k hk]
    rfl
  · rw [f 81 0 (by omega) (by omega) (by omega)]; exact l2.1
  · rw [f _ k (by omega) (by omega) (by omega)]; exact l2.2.1 k hk
  · show (u2 (u2 (forgI I) 3 b v) 83 b v 83 k).toInt = if k = b then v.toInt else aO A k
    rw [upd_toInt, u2_n1 (by decide), forgI_at (by decide), l2.2.2 k hk]
    rfl
  · rw [f 6 p (by omega) (by omega) (by omega), f 86 p (by omega) (by omega) (by omega)]; exact hW p hp
  · rw [f 1 6 (by omega) (by omega) (by omega), f 81 7 (by omega) (by omega) (by omega)]; exact hF
  · rw [f (8 + s) p (by omega) (by omega) (by omega), f 87 _ (by omega) (by omega) (by omega)]; exact hRi s hs p hp
/-- a WEIGHT -/
theorem JJ_wgt (a : okA A) (hR : JR sh R) (h1 : JA I A) (h2 : JB I lo hi) (h3 : JT I T) (h4 : JS I) (h5 : JZ I) {q : Nat} {v : Int32} (hv : 0 ≤ v.toInt ∧ v.toInt ≤ 50) : JJ sh (u2 (u2 (forgI I) 6 q v) 86 q v) L R := by
  have f : ∀ a k, a ≠ 6 → a ≠ 86 → (a ≠ 0 ∨ (k ≠ 9 ∧ k ≠ 14)) → u2 (u2 (forgI I) 6 q v) 86 q v a k = I a k := fun a k c1 c2 c3 => by
    unfold forgI u2
    rw [if_neg (by omega), if_neg (by omega), if_neg (by omega), if_neg (by omega)]
  obtain ⟨l1, l2, hW, hF, hRi, hWR⟩ := JA_un h1
  have a' : okA (stW A q v.toInt) := by
    refine ⟨a.1, a.2.1, a.2.2.1, fun p hp => ?_, a.2.2.2.2⟩
    show 0 ≤ (if p = q then v.toInt else aW A p) ∧ (if p = q then v.toInt else aW A p) ≤ 50
    split
    · exact hv
    · exact a.2.2.2.1 p hp
  refine JJ_new a' hR (JA_mk (lin_fr l1 (fun a k c => f a k (by omega) (by omega) (by omega))) (lin_fr l2 (fun a k c => f a k (by omega) (by omega) (by omega))) (fun p hp => ⟨?_, ?_⟩) ?_ (fun s hs p hp => ?_) (WR_fr hWR (fun a k c => f a k (by omega) (by omega) (by omega)))) h2 h3 h4 h5 rfl rfl (fun a k c => f a k (by unfold RelX at c; omega) (by unfold RelX at c; omega) (by unfold RelX at c; omega))
  · show (u2 (u2 (forgI I) 6 q v) 86 q v 6 p).toInt = if p = q then v.toInt else aW A p
    rw [u2_n1 (by decide), upd_toInt, forgI_at (by decide), (hW p hp).1]
  · show (u2 (u2 (forgI I) 6 q v) 86 q v 86 p).toInt = if p = q then v.toInt else aW A p
    rw [upd_toInt, u2_n1 (by decide), forgI_at (by decide), (hW p hp).2]
  · rw [f 1 6 (by omega) (by omega) (by omega), f 81 7 (by omega) (by omega) (by omega)]; exact hF
  · rw [f (8 + s) p (by omega) (by omega) (by omega), f 87 _ (by omega) (by omega) (by omega)]; exact hRi s hs p hp
/-- STIFFNESS -/
theorem JJ_stf (a : okA A) (hR : JR sh R) (h1 : JA I A) (h2 : JB I lo hi) (h3 : JT I T) (h4 : JS I) (h5 : JZ I) {v : Int32} (hv : 1 ≤ v.toInt ∧ v.toInt ≤ 20) : JJ sh (u2 (u2 (forgI I) 1 6 v) 81 7 v) L R := by
  have f : ∀ a k, (a ≠ 1 ∨ k ≠ 6) → (a ≠ 81 ∨ k ≠ 7) → (a ≠ 0 ∨ (k ≠ 9 ∧ k ≠ 14)) → u2 (u2 (forgI I) 1 6 v) 81 7 v a k = I a k := fun a k c1 c2 c3 => by
    unfold forgI u2
    rw [if_neg (by omega), if_neg (by omega), if_neg (by omega), if_neg (by omega)]
  obtain ⟨l1, l2, hW, hF, hRi, hWR⟩ := JA_un h1
  have a' : okA (stF A v.toInt) := ⟨a.1, a.2.1, a.2.2.1, a.2.2.2.1, hv.1, hv.2, a.2.2.2.2.2.2⟩
  refine JJ_new a' hR (JA_mk (lin_fr l1 (fun a k c => f a k (by omega) (by omega) (by omega))) (lin_fr l2 (fun a k c => f a k (by omega) (by omega) (by omega))) (fun p hp => ?_) ⟨rfl, rfl⟩ (fun s hs p hp => ?_) (WR_fr hWR (fun a k c => f a k (by omega) (by omega) (by omega)))) h2 h3 h4 h5 rfl rfl (fun a k c => f a k (by unfold RelX at c; omega) (by unfold RelX at c; omega) (by unfold RelX at c; omega))
  · rw [f 6 p (by omega) (by omega) (by omega), f 86 p (by omega) (by omega) (by omega)]; exact hW p hp
  · rw [f (8 + s) p (by omega) (by omega) (by omega), f 87 _ (by omega) (by omega) (by omega)]; exact hRi s hs p hp
/-- a RISE -/
theorem JJ_ris (a : okA A) (hR : JR sh R) (h1 : JA I A) (h2 : JB I lo hi) (h3 : JT I T) (h4 : JS I) (h5 : JZ I) {t q : Nat} {v : Int32} (ht : t < 4) (hq : q < 13) (hv : -20 ≤ v.toInt ∧ v.toInt ≤ 20) : JJ sh (u2 (u2 (forgI I) (8 + t) q v) 87 (13 * t + q) v) L R := by
  have f : ∀ a k, (a ≠ 8 + t) → a ≠ 87 → (a ≠ 0 ∨ (k ≠ 9 ∧ k ≠ 14)) → u2 (u2 (forgI I) (8 + t) q v) 87 (13 * t + q) v a k = I a k := fun a k c1 c2 c3 => by
    unfold forgI u2
    rw [if_neg (by omega), if_neg (by omega), if_neg (by omega), if_neg (by omega)]
  obtain ⟨l1, l2, hW, hF, hRi, hWR⟩ := JA_un h1
  have a' : okA (stR A t q v.toInt) := by
    refine ⟨a.1, a.2.1, a.2.2.1, a.2.2.2.1, a.2.2.2.2.1, a.2.2.2.2.2.1, fun s hs p hp => ?_⟩
    show -20 ≤ (if s = t ∧ p = q then v.toInt else aR A s p) ∧ (if s = t ∧ p = q then v.toInt else aR A s p) ≤ 20
    split
    · exact hv
    · exact a.2.2.2.2.2.2 s hs p hp
  refine JJ_new a' hR (JA_mk (lin_fr l1 (fun a k c => f a k (by omega) (by omega) (by omega))) (lin_fr l2 (fun a k c => f a k (by omega) (by omega) (by omega))) (fun p hp => ?_) ?_ (fun s hs p hp => ⟨?_, ?_⟩) (WR_fr hWR (fun a k c => f a k (by omega) (by omega) (by omega)))) h2 h3 h4 h5 ?_ ?_ (fun a k c => f a k (by unfold RelX at c; omega) (by unfold RelX at c; omega) (by unfold RelX at c; omega))
  · rw [f 6 p (by omega) (by omega) (by omega), f 86 p (by omega) (by omega) (by omega)]; exact hW p hp
  · rw [f 1 6 (by omega) (by omega) (by omega), f 81 7 (by omega) (by omega) (by omega)]; exact hF
  · show (u2 (u2 (forgI I) (8 + t) q v) 87 (13 * t + q) v (8 + s) p).toInt = if s = t ∧ p = q then v.toInt else aR A s p
    by_cases e : s = t ∧ p = q
    · rw [if_pos e, e.1, e.2, u2_n1 (by omega), u2_s]
    · have e2 : u2 (u2 (forgI I) (8 + t) q v) 87 (13 * t + q) v (8 + s) p = I (8 + s) p := by
        unfold forgI u2
        rw [if_neg (by omega), if_neg (by omega), if_neg (by omega), if_neg (by omega)]
      rw [if_neg e, e2, (hRi s hs p hp).1]
  · show (u2 (u2 (forgI I) (8 + t) q v) 87 (13 * t + q) v 87 (13 * s + p)).toInt = if s = t ∧ p = q then v.toInt else aR A s p
    by_cases e : s = t ∧ p = q
    · rw [if_pos e, e.1, e.2, u2_s]
    · have e2 : u2 (u2 (forgI I) (8 + t) q v) 87 (13 * t + q) v 87 (13 * s + p) = I 87 (13 * s + p) := by
        unfold forgI u2
        rw [if_neg (by omega), if_neg (by omega), if_neg (by omega), if_neg (by omega)]
      rw [if_neg e, e2, (hRi s hs p hp).2]
  · unfold forgI u2
    rw [if_neg (by omega), if_neg (by omega), if_neg (by omega), if_pos (by omega)]
  · unfold forgI u2
    rw [if_neg (by omega), if_neg (by omega), if_pos (by omega)]
/-- BOUNDS -/
theorem JJ_bnd (a : okA A) (hR : JR sh R) (h1 : JA I A) (h3 : JT I T) (h4 : JS I) (h5 : JZ I) {x y : Int32} (hx : 0 ≤ x.toInt ∧ x.toInt ≤ 600) (hy : 0 ≤ y.toInt ∧ y.toInt ≤ 600) : JJ sh (u2 (u2 (u2 (u2 (forgI I) 0 11 x) 0 12 y) 81 37 x) 81 38 y) L R := by
  have f : ∀ a k, (a ≠ 81 ∨ (k ≠ 37 ∧ k ≠ 38)) → (a ≠ 0 ∨ (k ≠ 9 ∧ k ≠ 14 ∧ k ≠ 11 ∧ k ≠ 12)) → u2 (u2 (u2 (u2 (forgI I) 0 11 x) 0 12 y) 81 37 x) 81 38 y a k = I a k := fun a k c1 c3 => by
    unfold forgI u2
    rw [if_neg (by omega), if_neg (by omega), if_neg (by omega), if_neg (by omega), if_neg (by omega), if_neg (by omega)]
  exact ⟨A, x.toInt, y.toInt, T, a, hR, JA_fr h1 (fun a k c => f a k (by omega) (by omega)), ⟨⟨rfl, rfl, hx.1, hx.2, hy.1, hy.2⟩, ⟨rfl, rfl, hx.1, hx.2, hy.1, hy.2⟩⟩, JT_fr h3 (fun a k c => f a k (by omega) (by omega)), JS_fr h4 (fun a k c => f a k (by omega) (by omega)), JZ_fr h5 (fun a k c => f a k (by omega) (by omega)), Or.inl rfl, Or.inl rfl⟩
/-- a READING -/
theorem JJ_rdg (a : okA A) (hR : JR sh R) (h1 : JA I A) (h2 : JB I lo hi) (h3 : JT I T) (h4 : JS I) (h5 : JZ I) (h6 : CPl I A lo hi) (h7 : CRest I L A) {b : Nat} {v : Int32} : JJ sh (u2 (u2 I 5 b v) 85 b v) L R := by
  have f : ∀ a k, a ≠ 5 → a ≠ 85 → u2 (u2 I 5 b v) 85 b v a k = I a k := fun a k c1 c2 => by rw [u2_n1 c2, u2_n1 c1]
  obtain ⟨l1, l2, hW, hF, hRi, hWR⟩ := JA_un h1
  refine ⟨A, lo, hi, T, a, hR, JA_mk (lin_fr l1 (fun a k c => f a k (by omega) (by omega))) (lin_fr l2 (fun a k c => f a k (by omega) (by omega))) (fun p hp => ?_) ?_ (fun s hs p hp => ?_) (fun k hk => ?_), JB_fr h2 (fun a k c => f a k (by omega) (by omega)), JT_fr h3 (fun a k c => f a k (by omega) (by omega)), JS_fr h4 (fun a k c => f a k (by omega) (by omega)), JZ_fr h5 (fun a k c => f a k (by omega) (by omega)), JP_fr h6 (fun a k c => f a k (by omega) (by omega)), CRest_fr h7 (fun a k _ _ => f a k (by omega) (by omega)) (fun k _ => f 0 k (by omega) (by omega)) (fun _ _ _ _ => rfl)⟩
  · rw [f 6 p (by omega) (by omega), f 86 p (by omega) (by omega)]; exact hW p hp
  · rw [f 1 6 (by omega) (by omega), f 81 7 (by omega) (by omega)]; exact hF
  · rw [f (8 + s) p (by omega) (by omega), f 87 _ (by omega) (by omega)]; exact hRi s hs p hp
  · have := hWR k hk
    rw [f 4 k (by omega) (by omega), f 84 k (by omega) (by omega)]
    refine ⟨this.1, ?_, this.2.2⟩
    rw [u2_n1 (by decide)]
    by_cases e : k = b
    · rw [e, u2_s, u2_s]
    · rw [u2_n2 e, u2_n2 e, u2_n1 (by decide)]; exact this.2.1
end JN
