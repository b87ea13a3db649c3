/-! a shaft that goes through chosen bearings: on a beam at cell b -/
def BmI (I : IM) (b : Nat) (s : Nat → Bool) (q : Nat → Nat) (hh : Nat → Rat) (i : Nat) : Prop := I b 0 = nI (cntS s i) ∧ ∀ j, j < i → s j = true → I (b + 1) (cntS s j) = nI (q j) ∧ ((I (b + 2) (cntS s j)).toInt : Rat) = hh j
def frBm (b : Nat) (I I' : IM) : Prop := ∀ a k, a ≠ b + 1 → a ≠ b + 2 → (a ≠ b ∨ k ≠ 0) → I' a k = I a k
theorem frBm_0 {b : Nat} {I : IM} : frBm b I I := fun _ _ _ _ _ => rfl
theorem frBm_t {b : Nat} {I I' I'' : IM} (h1 : frBm b I I') (h2 : frBm b I' I'') : frBm b I I'' := fun a k c1 c2 c3 => (h2 a k c1 c2 c3).trans (h1 a k c1 c2 c3)
section BM
variable {I : IM} {L : LM} {b i n : Nat} {s : Nat → Bool} {q : Nat → Nat} {hh w : Nat → Rat} {F : Rat}
theorem bm_0 (h : I b 0 = 0) : BmI I b s q hh 0 := ⟨h, fun j hj => absurd hj (Nat.not_lt_zero _)⟩
theorem bm_skip (h : BmI I b s q hh i) (hs : s i = false) : BmI I b s q hh (i + 1) := by
  refine ⟨?_, fun j hj hsj => ?_⟩
  · simp only [cntS]
    rw [if_neg (by rw [hs]; decide)]
    exact h.1
  · by_cases e : j = i
    · subst e
      rw [hs] at hsj
      cases hsj
    · exact h.2 j (by omega) hsj
theorem bm_add {p v : Int32} (h : BmI I b s q hh i) (hs : s i = true) (hp : p = nI (q i)) (hv : (v.toInt : Rat) = hh i) : BmI (u2 (u2 (u2 I (b + 1) (cntS s i) p) (b + 2) (cntS s i) v) b 0 (nI (cntS s i + 1))) b s q hh (i + 1) := by
  refine ⟨?_, fun j hj hsj => ?_⟩
  · simp only [cntS]
    rw [if_pos hs, u2_s]
  · by_cases e : j = i
    · subst e
      rw [u2_n1 (by omega), u2_n1 (by omega), u2_s, u2_n1 (by omega), u2_s]
      exact ⟨hp, hv⟩
    · have hlt := cntS_mono hsj i (by omega)
      rw [u2_n1 (by omega), u2_n1 (by omega), u2_n2 (by omega), u2_n1 (by omega), u2_n2 (by omega), u2_n1 (by omega)]
      exact h.2 j (by omega) hsj
theorem bm_fr {p v : Int32} {z : Int32} {m : Nat} : frBm b I (u2 (u2 (u2 I (b + 1) m p) (b + 2) m v) b 0 z) := fun a k c1 c2 c3 => by
  unfold u2
  rw [if_neg (by omega), if_neg (by omega), if_neg (by omega)]
theorem bm_p (h : BmI I b s q hh n) (hq : incN q n) {k : Nat} (hk : k < cntS s n) : I (b + 1) k = nI (lyN s q n k) ∧ lyN s q n k < 13 ∧ ((I (b + 2) k).toInt : Rat) = lyQ s hh n k := by
  obtain ⟨j, hj, h3, h4⟩ := cntS_onto (s := s) (i := k) n hk
  have e := h.2 j hj h3
  rw [← h4, lyN_at h3 n hj, lyQ_at h3 n hj]
  exact ⟨e.1, hq.1 j hj, e.2⟩
theorem bm_ix (h : BmI I b s q hh n) (hq : incN q n) {k : Nat} (hk : k < cntS s n) : px_ix (I (b + 1) k) 13 (lyN s q n k) := k_ix (bm_p h hq hk).1 (bm_p h hq hk).2.1 (by decide)
theorem bm_sol {W : Nat → Int32} {fr to : Int32} {L0 : LM} (h : BmI I b s q hh n) (hq : incN q n) (h7 : n ≤ 7) (h2 : 2 ≤ cntS s n) (hw : carW W fr to w) (hf : RI (L0 b 5) F) : SolI I (carL L0 b 13 (carS W fr to) (carC W fr to) (carA W fr to 13) (carM W fr to 13)) b (cntS s n - 2) (lyN s q n) (lyQ s hh n) w F := by
  refine ⟨fun k hk => (bm_p h hq (by omega)).1, fun k hk => (bm_p h hq (by omega)).2.2, ?_, ?_, ?_, fun p hp => ?_, fun p hp => ?_⟩
  · unfold carL
    rw [u2_n2 (by decide), u2_n2 (by decide), u1_n (by omega), u1_n (by omega)]
    exact hf
  · rw [carL_7]
    exact carA_RI hw 13 (by omega)
  · rw [carL_8]
    exact carM_RI hw 13 (by omega)
  · unfold carL
    rw [u2_n1 (by omega), u2_n1 (by omega), u1_s, if_pos hp]
    refine RI_eq (carC_RI hw p (by omega)) ?_
    rw [car_cb (by omega)]
  · unfold carL
    rw [u2_n1 (by omega), u2_n1 (by omega), u1_n (by omega), u1_s, if_pos hp]
    refine RI_eq (carS_RI hw p (by omega)) ?_
    rw [car_sq (by omega)]
end BM
/-- weights of some places -/
def wCut (A : LA) (fr to p : Nat) : Rat := if fr ≤ p ∧ p < to then wgt A p else 0
theorem inFT_N {fr to p : Nat} (hp : p < 13) (hf : fr ≤ 13) (ht : to ≤ 13) : inFT (nI fr) (nI to) p = true ↔ fr ≤ p ∧ p < to := by
  unfold inFT
  rw [decide_eq_true_eq, nI_ltI (by omega) (by omega), nI_leI (by omega) (by omega)]
  omega
theorem cl_carP {I : IM} {A : LA} {fr to : Nat} (hm : CLm I A) (a : okA A) (hf : fr ≤ 13) (ht : to ≤ 13) : carW (I 6) (nI fr) (nI to) (wCut A fr to) := fun p hp => by
  unfold wCut
  by_cases c : fr ≤ p ∧ p < to
  · rw [if_pos ((inFT_N hp hf ht).mpr c), if_pos c]
    have := cl_car hm a p hp
    have e0 : inFT 0 13 p = true := (inFT_N (fr := 0) (to := 13) hp (by omega) (by omega)).mpr (by omega)
    rw [if_pos e0] at this
    exact this
  · rw [if_neg (fun d => c ((inFT_N hp hf ht).mp d)), if_neg c]
def gsB (A : LA) (fr to k : Nat) : Bool := decide (fr ≤ aQ A k ∧ aQ A k < to)
theorem CLm_Bm {I I' : IM} {A : LA} {b : Nat} (h : CLm I A) (hb : 12 < b) (f : frBm b I I') : CLm I' A := CLm_fr h (fun a k h1 h2 => f a k (by omega) (by omega) (by omega))
def frLb (b : Nat) (L L' : LM) : Prop := ∀ a k, (a < b ∨ b + 11 < a) → L' a k = L a k
def gthP (sh : Sh) (I : IM) (L : LM) (R : RM) (A : LA) (b st fr to : Nat) : PPost := fun ret sh' I' L' R' => sh' = sh ∧ R' = R ∧ frBm b I I' ∧ frLb b L L' ∧ ∃ bb : Bool, ret = some (.int (bI bb)) ∧ (bb = false → ¬ 2 ≤ cntS (gsB A fr to) (aN A)) ∧ (bb = true → 2 ≤ cntS (gsB A fr to) (aN A) ∧ I' b 0 = nI (cntS (gsB A fr to) (aN A)) ∧ SolO I' L' b (cntS (gsB A fr to) (aN A) - 2) (lyN (gsB A fr to) (aQ A) (aN A)) (lyQ (gsB A fr to) (hgt A st) (aN A)) (wCut A fr to) (stf A))
theorem gth_end {sh : Sh} {I I2 : IM} {L L2 : LM} {R : RM} {A : LA} {b st fr to : Nat} (a : okA A) (f : frBm b I I2) (hL : L2 = u2 L b 5 (I 1 6).toInt64) (hm : CLm I A) (hm2 : CLm I2 A) (h : BmI I2 b (gsB A fr to) (aQ A) (hgt A st) (aN A)) (h2 : 2 ≤ cntS (gsB A fr to) (aN A)) (hf : fr ≤ 13) (ht : to ≤ 13) : gthP sh I L R A b st fr to (some (.int 1)) sh I2 (solL I2 (carL L2 b 13 (carS (I2 6) (nI fr) (nI to)) (carC (I2 6) (nI fr) (nI to)) (carA (I2 6) (nI fr) (nI to) 13) (carM (I2 6) (nI fr) (nI to) 13)) b (cntS (gsB A fr to) (aN A)) (lyN (gsB A fr to) (aQ A) (aN A))) R := by
  have hle := cntS_le (s := gsB A fr to) (aN A)
  have h6 := a.1
  refine ⟨rfl, rfl, f, fun c k hc => ?_, true, rfl, fun e => (by cases e), fun _ => ⟨h2, h.1, ?_⟩⟩
  · rw [solL_o (by omega) (by omega)]
    subst hL
    exact carL_fr c k (by omega)
  · have hS := bm_sol (F := stf A) (L0 := L2) h a.2.1 (by omega) h2 (cl_carP hm2 a hf ht) (by
      rw [hL, u2_s]
      exact cl_F hm)
    have := SolO_of (isP_sel a.2.1 (by omega) h2) hS
    rwa [show cntS (gsB A fr to) (aN A) - 2 + 2 = cntS (gsB A fr to) (aN A) by omega] at this
