/-! the planner's rows are made ready -/
theorem zer_car {W : Nat → Int32} (h : ∀ p, p < 13 → W p = 0) : carW W 0 13 zerW := fun p hp => by
  rw [h p hp]
  have e : nI p * (0 : Int32) = 0 := by
    apply Int32.toInt_inj.mp
    rw [Int32.toInt_mul]
    have z : (0 : Int32).toInt = 0 := rfl
    rw [z, Int.mul_zero]
    rfl
  split
  · refine ⟨RI_eq RI_0 rfl, ?_⟩
    rw [e]
    exact RI_eq RI_0 (by show (0 : Rat) = (p : Rat) * 0; grind)
  · rfl
theorem st_row {I : IM} {L : LM} {w0 : Nat} {W : Nat → Rat} {F : Rat} {f : Int32} (hw0 : w0 ≠ 45 ∧ w0 ≠ 46) (hw : carW (I w0) 0 13 W) (hf : RI f.toInt64 F) (q : Nat → Nat) (hh : Nat → Rat) : RestI (u2 (u2 I 45 1 0) (45 + 1) 0 0) (carL (u2 L (45 + 1) 5 f.toInt64) (45 + 1) 13 (carS (u2 (u2 I 45 1 0) (45 + 1) 0 0 w0) 0 13) (carC (u2 (u2 I 45 1 0) (45 + 1) 0 0 w0) 0 13) (carA (u2 (u2 I 45 1 0) (45 + 1) 0 0 w0) 0 13 13) (carM (u2 (u2 I 45 1 0) (45 + 1) 0 0 w0) 0 13 13)) 45 0 q hh W F := by
  have e6 : (u2 (u2 I 45 1 0) (45 + 1) 0 0 w0) = I w0 := by
    funext k
    rw [u2_n1 (by omega), u2_n1 (by omega)]
  rw [e6]
  exact rs_start (I0 := I) hf hw q hh (by rw [u2_n1 (by decide), u2_s])
/-- cells of the rest, members -/
def frQ (I I' : IM) : Prop := ∀ a k, (a < 45 ∨ 60 < a) → a ≠ 64 → I' a k = I a k
def frQL (K st : Nat) (L L' : LM) : Prop := ∀ a k, (a < 46 ∨ 57 < a) → a ≠ 65 → (a ≠ K ∨ k / 4 % 4 ≠ st) → L' a k = L a k
theorem frQ_0 {I : IM} : frQ I I := fun _ _ _ _ => rfl
theorem frQL_0 {K st : Nat} {L : LM} : frQL K st L L := fun _ _ _ _ _ => rfl
theorem frQ_t {I I' I'' : IM} (h1 : frQ I I') (h2 : frQ I' I'') : frQ I I'' := fun a k c1 c2 => (h2 a k c1 c2).trans (h1 a k c1 c2)
theorem frQL_t {K st : Nat} {L L' L'' : LM} (h1 : frQL K st L L') (h2 : frQL K st L' L'') : frQL K st L L'' := fun a k c1 c2 c3 => (h2 a k c1 c2 c3).trans (h1 a k c1 c2 c3)
theorem frQ_K {I I' : IM} (h : ∀ a k, (a < 45 ∨ 60 < a) → I' a k = I a k) : frQ I I' := fun a k c1 _ => h a k c1
theorem frQL_K {K st : Nat} {L L' : LM} (h : frKL L L') : frQL K st L L' := fun a k c1 _ _ => h a k c1
theorem kmS_frQ {I I2 : IM} {L L2 : LM} {j K fr n : Nat} {s : Nat → Bool} {m : Nat → Rat} (h : kmS I I2 L L2 j K fr n s m) : frQ I I2 := fun a k _ c => h.2.1 a k (Or.inl c)
theorem kmS_frQL {I I2 : IM} {L L2 : LM} {j K st n : Nat} {s : Nat → Bool} {m : Nat → Rat} (hst : st < 4) (h4 : n ≤ 4) (h : kmS I I2 L L2 j K ((j * 4 + st) * 4) n s m) : frQL K st L L2 := fun a k _ c2 c3 => h.2.2.1 a k (Or.inl c2) (by omega)
theorem CLm_Q {I I' : IM} {A : LA} (h : CLm I A) (f : frQ I I') : CLm I' A := CLm_fr h (fun a k h1 h2 => f a k (by omega) (by omega))
theorem PSet_fr {I I' : IM} {n : Nat} (h : PSet I n) (f : frQ I I') : PSet I' n := ⟨by rw [f 61 6 (by omega) (by decide)]; exact h.1, fun j hj => by rw [f 63 j (by omega) (by decide)]; exact h.2 j hj⟩
/-- one set kept -/
theorem PMem_s {I I2 : IM} {L L2 : LM} {q : Nat → Nat} {n J j K fr : Nat} {m : Nat → Rat} (h : PMem I L q n J) (hk : kmS I I2 L L2 j K fr n (sN n j) m) (hD : RI (L 46 4) (DQ (spR (lyN (sN n j) q n) (cntS (sN n j) n - 2)) (cntS (sN n j) n - 2))) (hK : K = 66 ∨ K = 67) : PMem I2 L2 q n J ∧ (J = j → PMem I2 L2 q n (J + 1)) := by
  have e : ∀ i, (i < J ∨ i = j) → I2 64 i = bitF (sN n i) n ∧ RI (L2 65 i) (DQ (spR (lyN (sN n i) q n) (cntS (sN n i) n - 2)) (cntS (sN n i) n - 2)) := fun i hi => by
    by_cases c : i = j
    · subst c
      refine ⟨hk.1, ?_⟩
      rw [hk.2.2.2.1]
      exact hD
    · have h1 := h i (by omega)
      rw [hk.2.1 64 i (Or.inr c), hk.2.2.1 65 i (Or.inr c) (Or.inl (by omega))]
      exact h1
  exact ⟨fun i hi => e i (Or.inl hi), fun hJ i hi => e i (by omega)⟩
theorem PMem_lay {I I2 : IM} {L L2 : LM} {q : Nat → Nat} {n J : Nat} (h : PMem I L q n J) (f : ∀ a k, (a < 45 ∨ 60 < a) → I2 a k = I a k) (g : frKL L L2) : PMem I2 L2 q n J := fun i hi => by
  rw [f 64 i (by omega), g 65 i (by omega)]
  exact h i hi
theorem PBs_lay {L L2 : LM} {q : Nat → Nat} {hh w : Nat → Rat} {F : Rat} {n st J : Nat} (h : PBs L q hh w F n st J) (g : frKL L L2) : PBs L2 q hh w F n st J := fun j hj b hb => by
  rw [g 66 _ (by omega)]
  exact h j hj b hb
theorem PBs_s {I I2 : IM} {L L2 : LM} {q : Nat → Nat} {hh w : Nat → Rat} {F : Rat} {n st j : Nat} (hst : st < 4) (h4 : n ≤ 4) (h : PBs L q hh w F n st j) (hk : kmS I I2 L L2 j 66 ((j * 4 + st) * 4) n (sN n j) (mgQ (sN n j) q hh w F n)) : PBs L2 q hh w F n st (j + 1) := fun i hi b hb => by
  by_cases c : i = j
  · subst c
    exact hk.2.2.2.2 b hb
  · rw [hk.2.2.1 66 _ (Or.inl (by decide)) (by omega)]
    exact h i (by omega) b hb
theorem PGk_lay {L L2 : LM} {q : Nat → Nat} {F : Rat} {n k J : Nat} (h : PGk L q F n k J) (g : frKL L L2) : PGk L2 q F n k J := fun j hj b hb => by
  rw [g 67 _ (by omega)]
  exact h j hj b hb
theorem PGk_s {I I2 : IM} {L L2 : LM} {q : Nat → Nat} {F : Rat} {n k j : Nat} (hk4 : k < 4) (h4 : n ≤ 4) (h : PGk L q F n k j) (hk : kmS I I2 L L2 j 67 ((j * 4 + k) * 4) n (sN n j) (mgQ (sN n j) q (oneH k) zerW F n)) : PGk L2 q F n k (j + 1) := fun i hi b hb => by
  by_cases c : i = j
  · subst c
    exact hk.2.2.2.2 b hb
  · rw [hk.2.2.1 67 _ (Or.inl (by decide)) (by omega)]
    exact h i (by omega) b hb
theorem PGk_o {L L2 : LM} {q : Nat → Nat} {F : Rat} {n k k2 J : Nat} (hk4 : k < 4) (h4 : n ≤ 4) (hne : k ≠ k2) (h : PGk L q F n k J) (f : frQL 67 k2 L L2) : PGk L2 q F n k J := fun i hi b hb => by
  rw [f 67 _ (by omega) (by decide) (by omega)]
  exact h i hi b hb
theorem PBs_o {L L2 : LM} {q : Nat → Nat} {hh w : Nat → Rat} {F : Rat} {n k k2 J : Nat} (hk4 : k < 4) (h4 : n ≤ 4) (hne : k ≠ k2) (h : PBs L q hh w F n k J) (f : frQL 66 k2 L L2) : PBs L2 q hh w F n k J := fun i hi b hb => by
  rw [f 66 _ (by omega) (by decide) (by omega)]
  exact h i hi b hb
theorem lay_D {I : IM} {L : LM} {n : Nat} {s : Nat → Bool} {q : Nat → Nat} {hh w : Nat → Rat} {F : Rat} (hS : RestS I L 45 n s q hh w F) (h2 : 2 ≤ cntS s n) : RI (L 46 4) (DQ (spR (lyN s q n) (cntS s n - 2)) (cntS s n - 2)) := (hS.2.2.2 h2).2.2.1
theorem lay_S2 {I : IM} {L : LM} {r n : Nat} {c : Int32} {q : Nat → Nat} {hh w : Nat → Rat} {F : Rat} (hq : incN q n) (h7 : n ≤ 7) (h : RestI I L r n q hh w F) : RestS (layI I r c n n) (solL (layI I r c n n) L (r + 1) (cntS (selC c n) n) (lyN (selC c n) q n)) r n (selC c n) q hh w F := by
  refine ⟨RestI_fr h lay_fr lay_frL, by unfold layI; rw [ly_c], fun b hb => ?_, fun h2 => ?_⟩
  · unfold layI
    rw [ly_15, lyT_at n hb]
  · have hP := isP_sel (s := selC c n) hq h7 h2
    have e : cntS (selC c n) n = (cntS (selC c n) n - 2) + 2 := by omega
    have hS : SolI (layI I r c n n) L (r + 1) (cntS (selC c n) n - 2) (lyN (selC c n) q n) (lyQ (selC c n) hh n) w F := by
      refine ⟨fun k hk => ?_, fun k hk => ?_, h.2.2.2.1, h.2.2.2.2.1, h.2.2.2.2.2.1, h.2.2.2.2.2.2.1, h.2.2.2.2.2.2.2⟩
      · obtain ⟨b, hb, h3, h4⟩ := cntS_onto (s := selC c n) (i := k) n (by omega)
        show layI I r c n n (r + 2) k = _
        unfold layI
        rw [ly_2, ← h4, lyP_at h3 n hb, lyN_at h3 n hb]
        exact h.2.1 b hb
      · obtain ⟨b, hb, h3, h4⟩ := cntS_onto (s := selC c n) (i := k) n (by omega)
        show ((layI I r c n n (r + 3) k).toInt : Rat) = _
        unfold layI
        rw [ly_3, ← h4, lyP_at h3 n hb, lyQ_at h3 n hb]
        exact h.2.2.1 b hb
    have := SolO_of hP hS
    rw [← e] at this
    exact this
def psP (sh : Sh) (I : IM) (L : LM) (R : RM) (q : Nat → Nat) (hh w : Nat → Rat) (F : Rat) (n st : Nat) : PPost := fun ret sh' I' L' R' => ret = none ∧ sh' = sh ∧ R' = R ∧ frQ I I' ∧ frQL 66 st L L' ∧ PMem I' L' q n (ordK n) ∧ PBs L' q hh w F n st (ordK n)
theorem lay_frq {I : IM} {c : Int32} {n : Nat} : ∀ a k, (a < 45 ∨ 60 < a) → layI I 45 c n n a k = I a k := fun a k h => lay_fr a k (by omega) (by omega) (by omega) (by omega)
theorem lay_frql {I : IM} {L : LM} {m : Nat} {pl : Nat → Nat} : frKL L (solL I L (45 + 1) m pl) := fun a k h => lay_frL (b := 46) a k (by omega) (by omega)
theorem ix_4 {x y : Int32} {j s : Nat} (hx : x = nI j) (hy : y = nI s) : (x * 4 + y) * 4 = nI ((j * 4 + s) * 4) := by
  rw [hx, hy]
  have e1 : nI j * 4 = nI (j * 4) := pk_mul j 4
  rw [e1, nI_add]
  exact pk_mul (j * 4 + s) 4
