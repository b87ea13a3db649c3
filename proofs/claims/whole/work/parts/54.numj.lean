/-! NUMBERS, 10: what the class's solve leaves -/
theorem RI_dif {a b : Nat} (ha : a < 2 ^ 30) (hb : b < 2 ^ 30) : RI (nI a - nI b).toInt64 ((a : Rat) - b) ∧ ((nI a - nI b).toInt64.toInt : Rat) = (a : Rat) - b := by
  have e := pk_sub_toInt ha hb
  have h := RI_32 (nI a - nI b)
  rw [e, Rat.intCast_sub] at h
  refine ⟨h, ?_⟩
  rw [Int32.toInt_toInt64, e, Rat.intCast_sub]
  rfl
theorem cubL_RI {x : Int64} {q : Rat} (h : (x.toInt : Rat) = q) : RI (cubL x) (cb q) := by
  have hx := RI_64 x
  rw [h] at hx
  unfold cubL cb
  have e : x.toInt ≤ 0 ↔ q ≤ 0 := by
    rw [← h]
    exact (Rat.intCast_le_intCast (a := x.toInt) (b := 0)).symm
  by_cases c : x.toInt ≤ 0
  · rw [if_pos c, if_pos (e.mp c)]
    exact RI_0
  · rw [if_neg c, if_neg (fun d => c (e.mpr d))]
    exact RI_mul (RI_mul hx hx) hx
theorem trnS_at {W : Int64} {sp lk g : Nat → Int64} {a : Nat} : ∀ r, 1 ≤ a → a ≤ r → trnS W sp lk g r a = trnF W sp lk a
  | 0, h1, h2 => by omega
  | r + 1, h1, h2 => by
    show (if a = r + 1 then trnF W sp lk (r + 1) else trnS W sp lk g r a) = _
    by_cases c : a = r + 1
    · rw [if_pos c, c]
    · rw [if_neg c]
      exact trnS_at r h1 (by omega)
theorem bd0_at {g : Nat → Int64} {a : Nat} : ∀ r, 1 ≤ a → a ≤ r → bd0 g r a = 0
  | 0, h1, h2 => by omega
  | r + 1, h1, h2 => by
    show (if a = r + 1 then 0 else bd0 g r a) = 0
    by_cases c : a = r + 1
    · rw [if_pos c]
    · rw [if_neg c]
      exact bd0_at r h1 (by omega)
theorem pz0_at {g : Nat → Int64} {a : Nat} : ∀ r, 2 ≤ a → a ≤ r + 1 → pz0 g r a = 0
  | 0, h1, h2 => by omega
  | r + 1, h1, h2 => by
    show (if a = r + 2 then 0 else pz0 g r a) = 0
    by_cases c : a = r + 2
    · rw [if_pos c]
    · rw [if_neg c]
      exact pz0_at r h1 (by omega)
/-- what solve is asked to begin with: places pl, heights h, weights w, STIFFNESS F -/
def SolI (I : IM) (L : LM) (b N : Nat) (pl : Nat → Nat) (h w : Nat → Rat) (F : Rat) : Prop :=
  (∀ k, k < N + 2 → I (b + 1) k = nI (pl k)) ∧ (∀ k, k < N + 2 → ((I (b + 2) k).toInt : Rat) = h k) ∧ RI (L b 5) F ∧ RI (L b 7) (allQ w) ∧ RI (L b 8) (mmtQ w) ∧ (∀ p, p < 13 → RI (L (b + 5) p) (sQ (fun q => w q * cb ((p : Rat) - q)) 13)) ∧ (∀ p, p < 13 → RI (L (b + 4) p) (sQ (fun q => w q * sq2 ((p : Rat) - q)) 13))
abbrev xR' (pl : Nat → Nat) : Nat → Rat := fun k => (pl k : Rat)
abbrev ldP (pl : Nat → Nat) (h w : Nat → Rat) (F : Rat) (N i : Nat) : Rat := ldQ (xR' pl) (spR pl N) h w (tlQ (spR pl N) N) F N i
section NK
variable {I : IM} {L : LM} {b N : Nat} {pl : Nat → Nat} {h w : Nat → Rat} {F : Rat}
theorem isP_12 (hP : isP pl N) : ∀ d k, k + d = N + 1 → pl k ≤ 12
  | 0, k, e => by
    have : k = N + 1 := by omega
    subst this
    exact hP.2.1
  | d + 1, k, e => by
    have := isP_12 hP d (k + 1) (by omega)
    have := hP.2.2 k (by omega)
    omega
theorem isP_le (hP : isP pl N) {k : Nat} (hk : k < N + 2) : pl k ≤ 12 := isP_12 hP (N + 1 - k) k (by omega)
theorem sol_sp (hP : isP pl N) (hS : SolI I L b N pl h w F) : ∀ k, k < N + 1 → RI (spnL I b k) (spR pl N k) := fun k hk => by
  have h1 := isP_le hP (show k < N + 2 by omega)
  have h2 := isP_le hP (show k + 1 < N + 2 by omega)
  unfold spnL
  rw [hS.1 k (by omega), hS.1 (k + 1) (by omega)]
  refine RI_eq (RI_dif (by omega) (by omega)).1 ?_
  have := (isP_X hP).2 k (by omega)
  have e : (pl (k + 1) : Rat) = (pl k : Rat) + spR pl N k := this
  rw [e]
  grind
theorem sol_fst (hP : isP pl N) (hS : SolI I L b N pl h w F) : RI (fpL I L b) (fstQ (xR' pl) w) ∧ RI (spL I L b) (sndQ (xR' pl) w) := by
  have h0 := isP_le hP (show 0 < N + 2 by omega)
  have h1 := isP_le hP (show 1 < N + 2 by omega)
  unfold fpL spL
  rw [hS.1 0 (by omega), hS.1 1 (by omega)]
  exact ⟨RI_sub (RI_mul (RI_nI (by omega)) hS.2.2.2.1) hS.2.2.2.2.1, RI_sub hS.2.2.2.2.1 (RI_mul (RI_nI (by omega)) hS.2.2.2.1)⟩
theorem sol_lak (hP : isP pl N) (hS : SolI I L b N pl h w F) {k : Nat} (hk : k < N + 2) : RI (lakL I L b (spnL I b 0) pl k) (spR pl N 0 * lamQ (xR' pl) (spR pl N) h w F N k) := by
  have hpk := isP_le hP hk
  have h0 := isP_le hP (show 0 < N + 2 by omega)
  have h1 := isP_le hP (show 1 < N + 2 by omega)
  have f := sol_fst hP hS
  have hh := RI_32 (I (b + 2) k)
  rw [hS.2.1 k hk] at hh
  unfold lakL
  rw [hS.1 0 (by omega), hS.1 1 (by omega), hS.1 k hk]
  refine RI_eq (RI_sub (RI_sub (RI_mul (sol_sp hP hS 0 (by omega)) (RI_add (RI_mul (RI_mul RI_6 hS.2.2.1) hh) (hS.2.2.2.2.2.1 (pl k) (by omega)))) (RI_mul f.1 (cubL_RI (RI_dif (by omega) (by omega)).2))) (RI_mul f.2 (cubL_RI (RI_dif (by omega) (by omega)).2))) ?_
  have hX := isP_X hP
  have hs := hX.1 0
  have hn : spR pl N 0 ≠ 0 := by grind
  unfold lamQ SQ
  rw [sQ_two N (fun j hj => by rw [bas_2 j hj]; grind)]
  show _ = spR pl N 0 * (6 * F * h k - ((fstQ (xR' pl) w / spR pl N 0) * cb ((pl k : Rat) - pl 0) + (sndQ (xR' pl) w / spR pl N 0) * cb ((pl k : Rat) - pl 1) - _))
  grind
theorem sol_W (hP : isP pl N) (hS : SolI I L b N pl h w F) : RI (proL (spnL I b) (N + 1)) (prQ (spR pl N) (N + 1)) ∧ ∀ k, k < N + 1 → RI (cutL (proL (spnL I b) (N + 1)) (spnL I b k)) (prQ (spR pl N) (N + 1) / spR pl N k) := by
  have h1 := RI_pro (m := N + 1) (sol_sp hP hS)
  refine ⟨h1, fun k hk => ?_⟩
  obtain ⟨t, ht⟩ := pr_div (spP pl N) (k := k) (N + 1) hk
  have hp := prQ_pos (sp_one hP) (N + 1)
  have hq := (D_size hP).2.1
  have hs := sp_one hP k
  refine RI_cut h1 (sol_sp hP hS k hk) ?_ (by grind) ?_ ht
  · unfold inQ
    grind
  · have e := (isP_X hP).2 k (by omega)
    have h1 := isP_le hP (show k + 1 < N + 2 by omega)
    have h2 := p_le (p := pl (k + 1)) (by omega)
    have h3 := p_ge (pl k)
    have e : (pl (k + 1) : Rat) = (pl k : Rat) + spR pl N k := e
    grind
theorem sol_ok (hP : isP pl N) (hS : SolI I L b N pl h w F) : (∀ i, i < N + 2 → RI (solL I L b (N + 2) pl (b + 3) i) (DQ (spR pl N) N * ldP pl h w F N i)) ∧ RI (solL I L b (N + 2) pl b 4) (DQ (spR pl N) N) ∧ RI (solL I L b (N + 2) pl (b + 6) 0) (spR pl N 0) := by
  have hsp := sol_sp hP hS
  have hX := isP_X hP
  have hW := sol_W hP hS
  have e4 : ∀ a j, solL I L b (N + 2) pl a j = pshL I (bndL (detL (mesL I L b (N + 2) pl (N + 2)) b (N + 2) (spnL I b)) b (N + 2) (spnL I b)) b (N + 2) (spnL I b) a j := fun a j => by
    unfold solL
    rw [if_pos (by omega)]
  -- the stages' rows
  have m6 : mesL I L b (N + 2) pl (N + 2) b 6 = proL (spnL I b) (N + 1) := by
    unfold mesL
    rw [u1_n (by omega), u2_s]
    rfl
  have m6r : ∀ j, j < N + 1 → mesL I L b (N + 2) pl (N + 2) (b + 6) j = spnL I b j := fun j hj => mesL_r (by omega)
  have m7 : ∀ j, j < N + 2 → mesL I L b (N + 2) pl (N + 2) (b + 7) j = lakL I L b (spnL I b 0) pl j := fun j hj => by
    unfold mesL
    rw [u1_s, if_pos hj]
  have d10 : ∀ j, j < N + 1 → detL (mesL I L b (N + 2) pl (N + 2)) b (N + 2) (spnL I b) (b + 10) j = ahdF (spnL I b) j := fun j hj => by
    unfold detL
    rw [u1_n (by omega), u1_s, if_pos (by omega)]
  have d11 : ∀ j, 2 ≤ j → j ≤ N + 1 → detL (mesL I L b (N + 2) pl (N + 2)) b (N + 2) (spnL I b) (b + 11) j = bhdF (spnL I b) N (N + 1 - j) := fun j h1 h2 => by
    unfold detL
    rw [u1_s, if_pos (by omega), show N + 2 - 2 = N by omega, show N + 2 - 1 - j = N + 1 - j by omega]
  have hah : ∀ k, k < N + 1 → RI (detL (mesL I L b (N + 2) pl (N + 2)) b (N + 2) (spnL I b) (b + 10) k) (cH (spR pl N) (k + 1)) := fun k hk => by
    rw [d10 k hk]
    exact RI_ahd hsp k hk
  have hbh : ∀ k, 2 ≤ k → k ≤ N + 1 → RI (detL (mesL I L b (N + 2) pl (N + 2)) b (N + 2) (spnL I b) (b + 11) k) (tlQ (spR pl N) N k) := fun k h1 h2 => by
    rw [d11 k h1 h2]
    unfold tlQ
    rw [show N + 2 - k = N + 1 - k + 1 by omega]
    exact RI_bhd hsp (N + 1 - k)
  generalize hL2 : detL (mesL I L b (N + 2) pl (N + 2)) b (N + 2) (spnL I b) = L2 at *
  have l6 : L2 b 6 = proL (spnL I b) (N + 1) := by rw [← hL2, detL_o (by omega) (by omega), m6]
  have l6r : ∀ j, j < N + 1 → L2 (b + 6) j = spnL I b j := fun j hj => by rw [← hL2, detL_o (by omega) (by omega), m6r j hj]
  have l7 : ∀ j, j < N + 2 → L2 (b + 7) j = lakL I L b (spnL I b 0) pl j := fun j hj => by rw [← hL2, detL_o (by omega) (by omega), m7 j hj]
  have lo : ∀ a j, a ≠ b + 6 → a ≠ b + 7 → (a ≠ b ∨ j ≠ 6) → a ≠ b + 10 → a ≠ b + 11 → L2 a j = L a j := fun a j h1 h2 h3 h4 h5 => by rw [← hL2, detL_o h4 h5, mesL_o h1 h2 h3]
  -- the right sides
  have ht : ∀ k, 1 ≤ k → k ≤ N → RI (trnS (L2 b 6) (spnL I b) (L2 (b + 7)) (L2 (b + 8)) N k) (prQ (spR pl N) (N + 1) * spR pl N 0 * d2 (spR pl N) (lamQ (xR' pl) (spR pl N) h w F N) (k - 1)) := fun k h1 h2 => by
    obtain ⟨j, rfl⟩ : ∃ j, k = j + 1 := ⟨k - 1, by omega⟩
    rw [trnS_at N h1 h2, l6]
    unfold trnF
    rw [show j + 1 - 1 = j from rfl, l7 j (by omega), l7 (j + 1) (by omega), l7 (j + 1 + 1) (by omega)]
    refine RI_eq (RI_add (RI_mul (hW.2 j (by omega)) (RI_sub (sol_lak hP hS (by omega)) (sol_lak hP hS (by omega)))) (RI_mul (hW.2 (j + 1) (by omega)) (RI_sub (sol_lak hP hS (by omega)) (sol_lak hP hS (by omega))))) ?_
    unfold d2
    have n1 := hX.1 j
    have n2 := hX.1 (j + 1)
    grind
  have hb : ∀ a, 1 ≤ a → a ≤ N → RI (bndL L2 b (N + 2) (spnL I b) (b + 9) a) (prQ (spR pl N) (N + 1) * spR pl N 0 * cH (spR pl N) (N + 1) * benQ (xR' pl) (spR pl N) h w (tlQ (spR pl N) N) F N a) := fun a h1 h2 => by
    unfold bndL
    rw [r2_2 (by omega), show N + 2 - 2 = N by omega]
    refine RI_eq (RI_bend hsp hah hbh ht (fun c h1 h2 => bd0_at N h1 h2) h1 h2) ?_
    unfold benQ
    rw [if_neg (by omega)]
    have hd := (cH_pos hX.1 N).1
    have e : sQ (fun j => gE (spR pl N) (tlQ (spR pl N) N) a (j + 1) * (prQ (spR pl N) (N + 1) * spR pl N 0 * d2 (spR pl N) (lamQ (xR' pl) (spR pl N) h w F N) (j + 1 - 1))) N = prQ (spR pl N) (N + 1) * spR pl N 0 * sQ (fun j => gE (spR pl N) (tlQ (spR pl N) N) a (j + 1) * d2 (spR pl N) (lamQ (xR' pl) (spR pl N) h w F N) j) N := by
      rw [← sQ_mul]
      exact sQ_congr (fun j hj => by rw [show j + 1 - 1 = j from rfl]; grind)
    rw [e]
    have hn : cH (spR pl N) (N + 1) ≠ 0 := by grind
    grind
  have b6 : bndL L2 b (N + 2) (spnL I b) b 6 = proL (spnL I b) (N + 1) := by rw [bndL_o (by omega) (by omega), l6]
  have b10 : RI (bndL L2 b (N + 2) (spnL I b) (b + 10) N) (cH (spR pl N) (N + 1)) := by
    rw [bndL_o (by omega) (by omega)]
    exact hah N (by omega)
  have bo : ∀ j, j = 7 ∨ j = 8 → bndL L2 b (N + 2) (spnL I b) b j = L b j := fun j hj => by rw [bndL_o (by omega) (by omega), lo b j (by omega) (by omega) (by omega) (by omega) (by omega)]
  have b6r : bndL L2 b (N + 2) (spnL I b) (b + 6) 0 = spnL I b 0 := by rw [bndL_o (by omega) (by omega), l6r 0 (by omega)]
  generalize bndL L2 b (N + 2) (spnL I b) = L3 at *
  have f := sol_fst hP hS
  have f1 : RI (fpL I L3 b) (fstQ (xR' pl) w) := by
    have : fpL I L3 b = fpL I L b := by unfold fpL; rw [bo 7 (Or.inl rfl), bo 8 (Or.inr rfl)]
    rw [this]
    exact f.1
  have f2 : RI (spL I L3 b) (sndQ (xR' pl) w) := by
    have : spL I L3 b = spL I L b := by unfold spL; rw [bo 7 (Or.inl rfl), bo 8 (Or.inr rfl)]
    rw [this]
    exact f.2
  have hsc : RI (L3 (b + 10) N * L3 b 6 * L3 b 6) (cH (spR pl N) (N + 1) * prQ (spR pl N) (N + 1) * prQ (spR pl N) (N + 1)) := by
    rw [b6]
    exact RI_mul (RI_mul b10 hW.1) hW.1
  have hn : spR pl N 0 ≠ 0 := by
    have := hX.1 0
    grind
  refine ⟨fun i hi => ?_, ?_, ?_⟩
  · rw [e4]
    unfold pshL
    rw [u1_s, show N + 2 - 2 = N by omega, b6]
    refine RI_eq (RI_pFin (N := N) (q0 := fun i => DQ (spR pl N) N * basQ (xR' pl) (spR pl N) w i) hW.2 hb (fun i hi => ?_) N (Nat.le_refl _) i (by omega)) ?_
    · unfold basQ DQ
      simp only [vp_updL]
      by_cases c1 : i = 1
      · subst c1
        rw [if_pos rfl, if_neg (by decide), if_pos rfl]
        rw [b6] at hsc
        refine RI_eq (RI_mul hsc f2) ?_
        grind
      · rw [if_neg c1]
        by_cases c0 : i = 0
        · subst c0
          rw [if_pos rfl, if_pos rfl]
          rw [b6] at hsc
          refine RI_eq (RI_mul hsc f1) ?_
          grind
        · rw [if_neg c0, if_neg c0, if_neg c1, pz0_at N (by omega) (by omega)]
          refine RI_eq RI_0 ?_
          grind
    · have e : dd (spR pl N) N (fun a => if a = 0 ∨ N < a then 0 else benQ (xR' pl) (spR pl N) h w (tlQ (spR pl N) N) F N a) i = dd (spR pl N) N (benQ (xR' pl) (spR pl N) h w (tlQ (spR pl N) N) F N) i := dd_congr (by omega) (fun k hk => by
        by_cases c : k = 0 ∨ N < k
        · rw [if_pos c]
          unfold benQ
          rw [if_pos c]
        · rw [if_neg c])
      rw [e]
      have := cls_ld (F := F) (h := h) (w := w) hX (tl_ok (spR pl N) N) (show i ≤ N + 1 by omega)
      unfold ldP
      rw [← this]
      unfold DQ
      grind
  · rw [e4]
    unfold pshL
    rw [u1_n (by omega), u2_s, show N + 2 - 2 = N by omega]
    exact RI_mul hsc (hsp 0 (by omega))
  · rw [e4]
    unfold pshL
    rw [u1_n (by omega), u2_n1 (by omega), b6r]
    exact hsp 0 (by omega)
end NK
