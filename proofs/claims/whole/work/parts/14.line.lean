set_option maxHeartbeats 4000000 in
set_option maxRecDepth 100000 in
theorem c_X7_cut {x z : Int64} {sh : Sh} {I : IM} {L : LM} {R : RM} : PMet M_X7_cut [.long x, .long z] sh I L R (pRet (some (.long (if z = 0 then 0 else x / z))) sh I L R) := by
  refine PMet.of mf_X7_cut (Nat.le_of_ble_eq_true rfl) ?_
  intro X h hr hml
  have hml : (xc X).maxLocals = 4 := hml
  have h : PXok X RX7 cX7_cut 1 0 0 := h
  have hr : PXr X (some .long) "cut" _ 0 0 := hr
  show PW X 0 [(0, .long x), (2, .long z)] [] sh I L R 0 0
  refine pw_lload_n h 1 d_X7_cut_0 rfl ?_
  refine pw_lconst (x := 0) h d_X7_cut_1 (by decide) ?_
  refine pw_lcmp h d_X7_cut_2 ?_
  refine pw_if_ne 10 h d_X7_cut_3 (by decide) (fun c_3 => ?_) (fun c_3 => ?_)
  · skip
    refine pw_lload_n h 0 d_X7_cut_10 rfl ?_
    refine pw_lload_n h 1 d_X7_cut_11 rfl ?_
    refine pw_ldiv h d_X7_cut_12 (by rw [← Int64.toInt_inj]; rw [lc_eq] at c_3; exact c_3) ?_
    refine pw_lret h hr d_X7_cut_13 (by decide) (by decide) ?_
    simp only [lc_eq] at c_3
    first | exact ⟨by rw [if_neg (by rw [← Int64.toInt_inj]; exact c_3)], rfl, rfl, rfl, rfl⟩ | exact ⟨by rw [if_pos (by rw [← Int64.toInt_inj]; exact c_3)], rfl, rfl, rfl, rfl⟩
  · skip
    refine pw_lconst (x := 0) h d_X7_cut_6 (by decide) ?_
    refine pw_goto 13 h d_X7_cut_7 (by decide) ?_
    refine pw_lret h hr d_X7_cut_13 (by decide) (by decide) ?_
    simp only [lc_eq] at c_3
    first | exact ⟨by rw [if_neg (by rw [← Int64.toInt_inj]; exact c_3)], rfl, rfl, rfl, rfl⟩ | exact ⟨by rw [if_pos (by rw [← Int64.toInt_inj]; exact c_3)], rfl, rfl, rfl, rfl⟩

set_option maxHeartbeats 4000000 in
set_option maxRecDepth 100000 in
theorem c_X2_bearingAt {sh : Sh} {I : IM} {L : LM} {R : RM} {b n : Nat} (hL : LineF sh R b) (hn : I b 0 = nI n) (h6 : n ≤ 6) (p : Int32) : PMet M_X2_bearingAt [.ref b, .int p] sh I L R (pRet (some (.int (sIdx (srch (I (b + 1)) p n) (-1)))) sh I L R) := by
  refine PMet.of mf_X2_bearingAt (Nat.le_of_ble_eq_true rfl) ?_
  intro X h hr hml
  have hml : (xc X).maxLocals = 3 := hml
  have h : PXok X RX2 cX2_bearingAt 1 0 0 := h
  have hr : PXr X (some .int) "bearingAt" _ 0 0 := hr
  obtain ⟨f0, f1, f2, f3, f4, f5, g1, g2, g3, g4, g5⟩ := hL
  show PW X 0 [(0, .ref b), (1, .int p)] [] sh I L R 0 0
  refine pw_iconst (x := 0) h d_X2_bearingAt_0 (by decide) ?_
  refine pw_nmI (fun v2_1 e2_1 => ?_)
  refine pw_istore_n (lv' := [(2, .int v2_1), (0, .ref b), (1, .int p)]) h d_X2_bearingAt_1 rfl _ hml (by decide) rfl ?_
  have cut_2 : ∀ (N i : Nat) (v : Int32), n < i + N → i ≤ n → v = nI i → srch (I (b + 1)) p i = none → PW X 2 [(0, .ref b), (1, .int p), (2, .int v)] [] sh I L R 0 0 := by
    intro N
    induction N with
    | zero => intros; omega
    | succ N ih =>
      intro i v hN hi ev hs
      refine pw_iload_n h 2 d_X2_bearingAt_2 rfl ?_
      refine pw_aload_n h 0 d_X2_bearingAt_3 rfl ?_
      refine pw_getI 2 h d_X2_bearingAt_4 fd_RX2_9 (by assumption) rfl ?_
      refine pw_icmp_ge 28 h d_X2_bearingAt_7 (by decide) (fun c_7 => ?_) (fun c_7 => ?_)
      · skip
        have hge := k_ge ev hn (by omega) (by omega) c_7
        have e : i = n := by omega
        subst e
        refine pw_iconst (x := (-1)) h d_X2_bearingAt_28 (by decide) ?_
        refine pw_iret h hr d_X2_bearingAt_29 rfl (by decide) (by decide) ?_
        exact ⟨by rw [hs]; rfl, rfl, rfl, rfl, rfl⟩
      · skip
        have hlt := k_lt ev hn (by omega) (by omega) c_7
        have hx := k_ix ev (Nat.lt_of_lt_of_le hlt h6) (by decide)
        refine pw_aload_n h 0 d_X2_bearingAt_10 rfl ?_
        refine pw_getR (j := (b + 1)) 2 h d_X2_bearingAt_11 fd_RX2_15 (by assumption) rfl (by assumption) ?_
        refine pw_iload_n h 2 d_X2_bearingAt_14 rfl ?_
        refine pw_iald h d_X2_bearingAt_15 (by assumption) (by assumption) ?_
        refine pw_iload_n h 1 d_X2_bearingAt_16 rfl ?_
        refine pw_icmp_ne 22 h d_X2_bearingAt_17 (by decide) (fun c_17 => ?_) (fun c_17 => ?_)
        · skip
          obtain ⟨v2_22, e2_22⟩ : ∃ z : Int32, z = v + (1) := ⟨_, rfl⟩
          refine pw_iinc (lv' := [(2, .int v2_22), (0, .ref b), (1, .int p)]) v2_22 h d_X2_bearingAt_22 2 rfl e2_22.symm _ hml (by decide) rfl ?_
          refine pw_goto 2 h d_X2_bearingAt_25 (by decide) ?_
          refine PW.perm [1, 2, 0] rfl ?_
          exact ih (i + 1) v2_22 (by omega) (by omega) (k_up e2_22 ev) (srch_no hs c_17)
        · skip
          refine pw_iload_n h 2 d_X2_bearingAt_20 rfl ?_
          refine pw_iret h hr d_X2_bearingAt_21 rfl (by decide) (by decide) ?_
          exact ⟨by rw [srch_at hs c_17 n hlt, ev]; rfl, rfl, rfl, rfl, rfl⟩
  refine PW.perm [1, 2, 0] rfl ?_
  exact cut_2 (n + 1) 0 v2_1 (by omega) (by omega) e2_1 rfl

set_option maxHeartbeats 4000000 in
set_option maxRecDepth 100000 in
theorem c_X2_bearingsBelow {sh : Sh} {I : IM} {L : LM} {R : RM} {b n : Nat} (hL : LineF sh R b) (hn : I b 0 = nI n) (h6 : n ≤ 6) (p : Int32) : PMet M_X2_bearingsBelow [.ref b, .int p] sh I L R (pRet (some (.int (nI (cntL (I (b + 1)) p n)))) sh I L R) := by
  refine PMet.of mf_X2_bearingsBelow (Nat.le_of_ble_eq_true rfl) ?_
  intro X h hr hml
  have hml : (xc X).maxLocals = 4 := hml
  have h : PXok X RX2 cX2_bearingsBelow 1 0 0 := h
  have hr : PXr X (some .int) "bearingsBelow" _ 0 0 := hr
  obtain ⟨f0, f1, f2, f3, f4, f5, g1, g2, g3, g4, g5⟩ := hL
  show PW X 0 [(0, .ref b), (1, .int p)] [] sh I L R 0 0
  refine pw_iconst (x := 0) h d_X2_bearingsBelow_0 (by decide) ?_
  refine pw_nmI (fun v2_1 e2_1 => ?_)
  refine pw_istore_n (lv' := [(2, .int v2_1), (0, .ref b), (1, .int p)]) h d_X2_bearingsBelow_1 rfl _ hml (by decide) rfl ?_
  refine pw_iconst (x := 0) h d_X2_bearingsBelow_2 (by decide) ?_
  refine pw_nmI (fun v3_3 e3_3 => ?_)
  refine pw_istore_n (lv' := [(3, .int v3_3), (2, .int v2_1), (0, .ref b), (1, .int p)]) h d_X2_bearingsBelow_3 rfl _ hml (by decide) rfl ?_
  have cut_4 : ∀ (N i : Nat) (a v : Int32), n < i + N → i ≤ n → v = nI i → a = nI (cntL (I (b + 1)) p i) → PW X 4 [(0, .ref b), (1, .int p), (2, .int a), (3, .int v)] [] sh I L R 0 0 := by
    intro N
    induction N with
    | zero => intros; omega
    | succ N ih =>
      intro i a v hN hi ev ea
      refine pw_iload_n h 3 d_X2_bearingsBelow_4 rfl ?_
      refine pw_aload_n h 0 d_X2_bearingsBelow_5 rfl ?_
      refine pw_getI 2 h d_X2_bearingsBelow_6 fd_RX2_9 (by assumption) rfl ?_
      refine pw_icmp_ge 31 h d_X2_bearingsBelow_9 (by decide) (fun c_9 => ?_) (fun c_9 => ?_)
      · skip
        have hge := k_ge ev hn (by omega) (by omega) c_9
        have e : i = n := by omega
        subst e
        refine pw_iload_n h 2 d_X2_bearingsBelow_31 rfl ?_
        refine pw_iret h hr d_X2_bearingsBelow_32 rfl (by decide) (by decide) ?_
        exact ⟨by rw [ea], rfl, rfl, rfl, rfl⟩
      · skip
        have hlt := k_lt ev hn (by omega) (by omega) c_9
        have hx := k_ix ev (Nat.lt_of_lt_of_le hlt h6) (by decide)
        refine pw_aload_n h 0 d_X2_bearingsBelow_12 rfl ?_
        refine pw_getR (j := (b + 1)) 2 h d_X2_bearingsBelow_13 fd_RX2_15 (by assumption) rfl (by assumption) ?_
        refine pw_iload_n h 3 d_X2_bearingsBelow_16 rfl ?_
        refine pw_iald h d_X2_bearingsBelow_17 (by assumption) (by assumption) ?_
        refine pw_iload_n h 1 d_X2_bearingsBelow_18 rfl ?_
        refine pw_icmp_ge 25 h d_X2_bearingsBelow_19 (by decide) (fun c_19 => ?_) (fun c_19 => ?_)
        · skip
          have c_19 : ¬ I (b + 1) i < p := by rw [Int32.lt_iff_toInt_lt]; rw [Int32.le_iff_toInt_le] at c_19; omega
          obtain ⟨v3_25, e3_25⟩ : ∃ z : Int32, z = v + (1) := ⟨_, rfl⟩
          refine pw_iinc (lv' := [(3, .int v3_25), (0, .ref b), (1, .int p), (2, .int a)]) v3_25 h d_X2_bearingsBelow_25 3 rfl e3_25.symm _ hml (by decide) rfl ?_
          refine pw_goto 4 h d_X2_bearingsBelow_28 (by decide) ?_
          refine PW.perm [1, 2, 3, 0] rfl ?_
          exact ih (i + 1) a v3_25 (by omega) (by omega) (k_up e3_25 ev) (by simp only [cntL]; rw [if_neg (by assumption), Nat.add_zero]; exact ea)
        · skip
          have c_19 : I (b + 1) i < p := by rw [Int32.lt_iff_toInt_lt]; rw [Int32.le_iff_toInt_le] at c_19; omega
          obtain ⟨v2_22, e2_22⟩ : ∃ z : Int32, z = a + (1) := ⟨_, rfl⟩
          refine pw_iinc (lv' := [(2, .int v2_22), (0, .ref b), (1, .int p), (3, .int v)]) v2_22 h d_X2_bearingsBelow_22 2 rfl e2_22.symm _ hml (by decide) rfl ?_
          obtain ⟨v3_25, e3_25⟩ : ∃ z : Int32, z = v + (1) := ⟨_, rfl⟩
          refine pw_iinc (lv' := [(3, .int v3_25), (2, .int v2_22), (0, .ref b), (1, .int p)]) v3_25 h d_X2_bearingsBelow_25 3 rfl e3_25.symm _ hml (by decide) rfl ?_
          refine pw_goto 4 h d_X2_bearingsBelow_28 (by decide) ?_
          refine PW.perm [2, 3, 1, 0] rfl ?_
          exact ih (i + 1) v2_22 v3_25 (by omega) (by omega) (k_up e3_25 ev) (by simp only [cntL]; rw [if_pos (by assumption)]; exact k_up e2_22 ea)
  refine PW.perm [2, 3, 1, 0] rfl ?_
  exact cut_4 (n + 1) 0 v2_1 v3_3 (by omega) (by omega) e3_3 e2_1

set_option maxHeartbeats 4000000 in
set_option maxRecDepth 100000 in
theorem c_X2_allWeights {sh : Sh} {I : IM} {L : LM} {R : RM} {b : Nat} (hL : LineF sh R b) : PMet M_X2_allWeights [.ref b] sh I L R (pRet (some (.int (sumI (I (b + 5)) 13))) sh I L R) := by
  refine PMet.of mf_X2_allWeights (Nat.le_of_ble_eq_true rfl) ?_
  intro X h hr hml
  have hml : (xc X).maxLocals = 3 := hml
  have h : PXok X RX2 cX2_allWeights 1 0 0 := h
  have hr : PXr X (some .int) "allWeights" _ 0 0 := hr
  obtain ⟨f0, f1, f2, f3, f4, f5, g1, g2, g3, g4, g5⟩ := hL
  show PW X 0 [(0, .ref b)] [] sh I L R 0 0
  refine pw_iconst (x := 0) h d_X2_allWeights_0 (by decide) ?_
  refine pw_nmI (fun v1_1 e1_1 => ?_)
  refine pw_istore_n (lv' := [(1, .int v1_1), (0, .ref b)]) h d_X2_allWeights_1 rfl _ hml (by decide) rfl ?_
  refine pw_iconst (x := 0) h d_X2_allWeights_2 (by decide) ?_
  refine pw_nmI (fun v2_3 e2_3 => ?_)
  refine pw_istore_n (lv' := [(2, .int v2_3), (1, .int v1_1), (0, .ref b)]) h d_X2_allWeights_3 rfl _ hml (by decide) rfl ?_
  have cut_4 : ∀ (N i : Nat) (a v : Int32), 13 < i + N → i ≤ 13 → v = nI i → a = sumI (I (b + 5)) i → PW X 4 [(0, .ref b), (1, .int a), (2, .int v)] [] sh I L R 0 0 := by
    intro N
    induction N with
    | zero => intros; omega
    | succ N ih =>
      intro i a v hN hi ev ea
      refine pw_iload_n h 2 d_X2_allWeights_4 rfl ?_
      refine pw_bipush (x := 13) h d_X2_allWeights_5 (by decide) ?_
      refine pw_icmp_ge 25 h d_X2_allWeights_7 (by decide) (fun c_7 => ?_) (fun c_7 => ?_)
      · skip
        have hge := k_ge ev (n := 13) rfl (by omega) (by omega) c_7
        have e : i = 13 := by omega
        subst e
        refine pw_iload_n h 1 d_X2_allWeights_25 rfl ?_
        refine pw_iret h hr d_X2_allWeights_26 rfl (by decide) (by decide) ?_
        exact ⟨by rw [ea], rfl, rfl, rfl, rfl⟩
      · skip
        have hlt := k_lt ev (n := 13) rfl (by omega) (by omega) c_7
        have hx := k_ix ev hlt (by decide)
        refine pw_iload_n h 1 d_X2_allWeights_10 rfl ?_
        refine pw_aload_n h 0 d_X2_allWeights_11 rfl ?_
        refine pw_getR (j := (b + 5)) 2 h d_X2_allWeights_12 fd_RX2_28 (by assumption) rfl (by assumption) ?_
        refine pw_iload_n h 2 d_X2_allWeights_15 rfl ?_
        refine pw_iald h d_X2_allWeights_16 (by assumption) (by assumption) ?_
        refine pw_iadd h d_X2_allWeights_17 ?_
        refine pw_nmI (fun v1_18 e1_18 => ?_)
        refine pw_istore_n (lv' := [(1, .int v1_18), (0, .ref b), (2, .int v)]) h d_X2_allWeights_18 rfl _ hml (by decide) rfl ?_
        obtain ⟨v2_19, e2_19⟩ : ∃ z : Int32, z = v + (1) := ⟨_, rfl⟩
        refine pw_iinc (lv' := [(2, .int v2_19), (1, .int v1_18), (0, .ref b)]) v2_19 h d_X2_allWeights_19 2 rfl e2_19.symm _ hml (by decide) rfl ?_
        refine pw_goto 4 h d_X2_allWeights_22 (by decide) ?_
        refine PW.perm [2, 1, 0] rfl ?_
        exact ih (i + 1) v1_18 v2_19 (by omega) (by omega) (k_up e2_19 ev) (by rw [e1_18, ea]; rfl)
  refine PW.perm [2, 1, 0] rfl ?_
  exact cut_4 14 0 v1_1 v2_3 (by omega) (by omega) e2_3 e1_1

set_option maxHeartbeats 4000000 in
set_option maxRecDepth 100000 in
theorem c_X2_placesWithWeights {sh : Sh} {I : IM} {L : LM} {R : RM} {b : Nat} (hL : LineF sh R b) : PMet M_X2_placesWithWeights [.ref b] sh I L R (pRet (some (.int (nI (cntP (I (b + 5)) 13)))) sh I L R) := by
  refine PMet.of mf_X2_placesWithWeights (Nat.le_of_ble_eq_true rfl) ?_
  intro X h hr hml
  have hml : (xc X).maxLocals = 3 := hml
  have h : PXok X RX2 cX2_placesWithWeights 1 0 0 := h
  have hr : PXr X (some .int) "placesWithWeights" _ 0 0 := hr
  obtain ⟨f0, f1, f2, f3, f4, f5, g1, g2, g3, g4, g5⟩ := hL
  show PW X 0 [(0, .ref b)] [] sh I L R 0 0
  refine pw_iconst (x := 0) h d_X2_placesWithWeights_0 (by decide) ?_
  refine pw_nmI (fun v1_1 e1_1 => ?_)
  refine pw_istore_n (lv' := [(1, .int v1_1), (0, .ref b)]) h d_X2_placesWithWeights_1 rfl _ hml (by decide) rfl ?_
  refine pw_iconst (x := 0) h d_X2_placesWithWeights_2 (by decide) ?_
  refine pw_nmI (fun v2_3 e2_3 => ?_)
  refine pw_istore_n (lv' := [(2, .int v2_3), (1, .int v1_1), (0, .ref b)]) h d_X2_placesWithWeights_3 rfl _ hml (by decide) rfl ?_
  have cut_4 : ∀ (N i : Nat) (a v : Int32), 13 < i + N → i ≤ 13 → v = nI i → a = nI (cntP (I (b + 5)) i) → PW X 4 [(0, .ref b), (1, .int a), (2, .int v)] [] sh I L R 0 0 := by
    intro N
    induction N with
    | zero => intros; omega
    | succ N ih =>
      intro i a v hN hi ev ea
      refine pw_iload_n h 2 d_X2_placesWithWeights_4 rfl ?_
      refine pw_bipush (x := 13) h d_X2_placesWithWeights_5 (by decide) ?_
      refine pw_icmp_ge 28 h d_X2_placesWithWeights_7 (by decide) (fun c_7 => ?_) (fun c_7 => ?_)
      · skip
        have hge := k_ge ev (n := 13) rfl (by omega) (by omega) c_7
        have e : i = 13 := by omega
        subst e
        refine pw_iload_n h 1 d_X2_placesWithWeights_28 rfl ?_
        refine pw_iret h hr d_X2_placesWithWeights_29 rfl (by decide) (by decide) ?_
        exact ⟨by rw [ea], rfl, rfl, rfl, rfl⟩
      · skip
        have hlt := k_lt ev (n := 13) rfl (by omega) (by omega) c_7
        have hx := k_ix ev hlt (by decide)
        refine pw_aload_n h 0 d_X2_placesWithWeights_10 rfl ?_
        refine pw_getR (j := (b + 5)) 2 h d_X2_placesWithWeights_11 fd_RX2_28 (by assumption) rfl (by assumption) ?_
        refine pw_iload_n h 2 d_X2_placesWithWeights_14 rfl ?_
        refine pw_iald h d_X2_placesWithWeights_15 (by assumption) (by assumption) ?_
        refine pw_if_le 22 h d_X2_placesWithWeights_16 (by decide) (fun c_16 => ?_) (fun c_16 => ?_)
        · skip
          have c_16 : ¬ 0 < I (b + 5) i := by rw [Int32.lt_iff_toInt_lt]; rw [Int32.le_iff_toInt_le] at c_16; omega
          obtain ⟨v2_22, e2_22⟩ : ∃ z : Int32, z = v + (1) := ⟨_, rfl⟩
          refine pw_iinc (lv' := [(2, .int v2_22), (0, .ref b), (1, .int a)]) v2_22 h d_X2_placesWithWeights_22 2 rfl e2_22.symm _ hml (by decide) rfl ?_
          refine pw_goto 4 h d_X2_placesWithWeights_25 (by decide) ?_
          refine PW.perm [1, 2, 0] rfl ?_
          exact ih (i + 1) a v2_22 (by omega) (by omega) (k_up e2_22 ev) (by simp only [cntP]; rw [if_neg (by assumption), Nat.add_zero]; exact ea)
        · skip
          have c_16 : 0 < I (b + 5) i := by rw [Int32.lt_iff_toInt_lt]; rw [Int32.le_iff_toInt_le] at c_16; omega
          obtain ⟨v1_19, e1_19⟩ : ∃ z : Int32, z = a + (1) := ⟨_, rfl⟩
          refine pw_iinc (lv' := [(1, .int v1_19), (0, .ref b), (2, .int v)]) v1_19 h d_X2_placesWithWeights_19 1 rfl e1_19.symm _ hml (by decide) rfl ?_
          obtain ⟨v2_22, e2_22⟩ : ∃ z : Int32, z = v + (1) := ⟨_, rfl⟩
          refine pw_iinc (lv' := [(2, .int v2_22), (1, .int v1_19), (0, .ref b)]) v2_22 h d_X2_placesWithWeights_22 2 rfl e2_22.symm _ hml (by decide) rfl ?_
          refine pw_goto 4 h d_X2_placesWithWeights_25 (by decide) ?_
          refine PW.perm [2, 1, 0] rfl ?_
          exact ih (i + 1) v1_19 v2_22 (by omega) (by omega) (k_up e2_22 ev) (by simp only [cntP]; rw [if_pos (by assumption)]; exact k_up e1_19 ea)
  refine PW.perm [2, 1, 0] rfl ?_
  exact cut_4 14 0 v1_1 v2_3 (by omega) (by omega) e2_3 e1_1

set_option maxHeartbeats 4000000 in
set_option maxRecDepth 100000 in
theorem c_X2_shift {sh : Sh} {I : IM} {L : LM} {R : RM} {b i j : Nat} (hL : LineF sh R b) {v w : Int32} (ev : v = nI i) (ew : w = nI j) (hi : i < 6) (hj : j < 6) : PMet M_X2_shift [.ref b, .int v, .int w] sh I L R (pRet none sh (u2 (u2 (u2 (u2 I (b + 1) j (I (b + 1) i)) (b + 2) j (I (b + 2) i)) (b + 3) j (I (b + 3) i)) (b + 4) j (I (b + 4) i)) L R) := by
  refine PMet.of mf_X2_shift (Nat.le_of_ble_eq_true rfl) ?_
  intro X h hr hml
  have hml : (xc X).maxLocals = 3 := hml
  have h : PXok X RX2 cX2_shift 1 0 0 := h
  have hr : PXr X none "shift" _ 0 0 := hr
  obtain ⟨f0, f1, f2, f3, f4, f5, g1, g2, g3, g4, g5⟩ := hL
  have hx := k_ix ev hi (by decide)
  have hw := k_ix ew hj (by decide)
  show PW X 0 [(0, .ref b), (1, .int v), (2, .int w)] [] sh I L R 0 0
  refine pw_aload_n h 0 d_X2_shift_0 rfl ?_
  refine pw_getR (j := (b + 1)) 2 h d_X2_shift_1 fd_RX2_15 (by assumption) rfl (by assumption) ?_
  refine pw_iload_n h 2 d_X2_shift_4 rfl ?_
  refine pw_aload_n h 0 d_X2_shift_5 rfl ?_
  refine pw_getR (j := (b + 1)) 2 h d_X2_shift_6 fd_RX2_15 (by assumption) rfl (by assumption) ?_
  refine pw_iload_n h 1 d_X2_shift_9 rfl ?_
  refine pw_iald h d_X2_shift_10 (by assumption) (by assumption) ?_
  refine pw_iast h d_X2_shift_11 (by assumption) (by assumption) ?_
  refine pw_aload_n h 0 d_X2_shift_12 rfl ?_
  refine pw_getR (j := (b + 2)) 2 h d_X2_shift_13 fd_RX2_19 (by assumption) rfl (by assumption) ?_
  refine pw_iload_n h 2 d_X2_shift_16 rfl ?_
  refine pw_aload_n h 0 d_X2_shift_17 rfl ?_
  refine pw_getR (j := (b + 2)) 2 h d_X2_shift_18 fd_RX2_19 (by assumption) rfl (by assumption) ?_
  refine pw_iload_n h 1 d_X2_shift_21 rfl ?_
  refine pw_iald h d_X2_shift_22 (by assumption) (by assumption) ?_
  refine pw_iast h d_X2_shift_23 (by assumption) (by assumption) ?_
  refine pw_aload_n h 0 d_X2_shift_24 rfl ?_
  refine pw_getR (j := (b + 3)) 2 h d_X2_shift_25 fd_RX2_22 (by assumption) rfl (by assumption) ?_
  refine pw_iload_n h 2 d_X2_shift_28 rfl ?_
  refine pw_aload_n h 0 d_X2_shift_29 rfl ?_
  refine pw_getR (j := (b + 3)) 2 h d_X2_shift_30 fd_RX2_22 (by assumption) rfl (by assumption) ?_
  refine pw_iload_n h 1 d_X2_shift_33 rfl ?_
  refine pw_iald h d_X2_shift_34 (by assumption) (by assumption) ?_
  refine pw_iast h d_X2_shift_35 (by assumption) (by assumption) ?_
  refine pw_aload_n h 0 d_X2_shift_36 rfl ?_
  refine pw_getR (j := (b + 4)) 2 h d_X2_shift_37 fd_RX2_25 (by assumption) rfl (by assumption) ?_
  refine pw_iload_n h 2 d_X2_shift_40 rfl ?_
  refine pw_aload_n h 0 d_X2_shift_41 rfl ?_
  refine pw_getR (j := (b + 4)) 2 h d_X2_shift_42 fd_RX2_25 (by assumption) rfl (by assumption) ?_
  refine pw_iload_n h 1 d_X2_shift_45 rfl ?_
  refine pw_iald h d_X2_shift_46 (by assumption) (by assumption) ?_
  refine pw_iast h d_X2_shift_47 (by assumption) (by assumption) ?_
  refine pw_vret h hr d_X2_shift_48 (by decide) (by decide) ?_
  refine ⟨rfl, rfl, ?_, rfl, rfl⟩
  funext c k
  simp [u2]

set_option maxHeartbeats 4000000 in
set_option maxRecDepth 100000 in
theorem c_X2_clear {sh : Sh} {I : IM} {L : LM} {R : RM} {b : Nat} (hL : LineF sh R b) : PMet M_X2_clear [.ref b] sh I L R (pRet none sh (u1 (u2 I b 0 0) (b + 5) (fun j => if j < 13 then 0 else I (b + 5) j)) L R) := by
  refine PMet.of mf_X2_clear (Nat.le_of_ble_eq_true rfl) ?_
  intro X h hr hml
  have hml : (xc X).maxLocals = 2 := hml
  have h : PXok X RX2 cX2_clear 1 0 0 := h
  have hr : PXr X none "clear" _ 0 0 := hr
  obtain ⟨f0, f1, f2, f3, f4, f5, g1, g2, g3, g4, g5⟩ := hL
  show PW X 0 [(0, .ref b)] [] sh I L R 0 0
  refine pw_aload_n h 0 d_X2_clear_0 rfl ?_
  refine pw_iconst (x := 0) h d_X2_clear_1 (by decide) ?_
  refine pw_putI 2 h d_X2_clear_2 fd_RX2_9 (by assumption) rfl rfl rfl rfl ?_
  refine pw_iconst (x := 0) h d_X2_clear_5 (by decide) ?_
  refine pw_nmI (fun v1_6 e1_6 => ?_)
  refine pw_istore_n (lv' := [(1, .int v1_6), (0, .ref b)]) h d_X2_clear_6 rfl _ hml (by decide) rfl ?_
  have cut_7 : ∀ (N i : Nat) (v : Int32), 13 < i + N → i ≤ 13 → v = nI i → PW X 7 [(0, .ref b), (1, .int v)] [] sh (u1 (u2 I b 0 0) (b + 5) (fun j => if j < i then 0 else I (b + 5) j)) L R 0 0 := by
    intro N
    induction N with
    | zero => intros; omega
    | succ N ih =>
      intro i v hN hi ev
      refine pw_iload_n h 1 d_X2_clear_7 rfl ?_
      refine pw_bipush (x := 13) h d_X2_clear_8 (by decide) ?_
      refine pw_icmp_ge 26 h d_X2_clear_10 (by decide) (fun c_10 => ?_) (fun c_10 => ?_)
      · skip
        have hge := k_ge ev (n := 13) rfl (by omega) (by omega) c_10
        have e : i = 13 := by omega
        subst e
        refine pw_vret h hr d_X2_clear_26 (by decide) (by decide) ?_
        exact ⟨rfl, rfl, rfl, rfl, rfl⟩
      · skip
        have hlt := k_lt ev (n := 13) rfl (by omega) (by omega) c_10
        have hx := k_ix ev hlt (by decide)
        refine pw_aload_n h 0 d_X2_clear_13 rfl ?_
        refine pw_getR (j := (b + 5)) 2 h d_X2_clear_14 fd_RX2_28 (by assumption) rfl (by assumption) ?_
        refine pw_iload_n h 1 d_X2_clear_17 rfl ?_
        refine pw_iconst (x := 0) h d_X2_clear_18 (by decide) ?_
        refine pw_iast h d_X2_clear_19 (by assumption) (by assumption) ?_
        obtain ⟨v1_20, e1_20⟩ : ∃ z : Int32, z = v + (1) := ⟨_, rfl⟩
        refine pw_iinc (lv' := [(1, .int v1_20), (0, .ref b)]) v1_20 h d_X2_clear_20 1 rfl e1_20.symm _ hml (by decide) rfl ?_
        refine pw_goto 7 h d_X2_clear_23 (by decide) ?_
        refine PW.perm [1, 0] rfl ?_
        refine pw_mem ?_ rfl rfl (ih (i + 1) v1_20 (by omega) (by omega) (k_up e1_20 ev))
        exact u1_step
  refine PW.perm [1, 0] rfl ?_
  refine pw_mem ?_ rfl rfl (cut_7 14 0 v1_6 (by omega) (by omega) e1_6)
  exact (u1_zero (h := by omega)).symm

set_option maxHeartbeats 4000000 in
set_option maxRecDepth 100000 in
theorem c_X2_insert {sh : Sh} {I : IM} {L : LM} {R : RM} {b n : Nat} (hL : LineF sh R b) (hn : I b 0 = nI n) (h6 : n ≤ 6) (hlt6 : n < 6) (p x : Int32) : PMet M_X2_insert [.ref b, .int p, .int x] sh I L R (pRet (some (.int (nI (cntL (I (b + 1)) p n)))) sh (u2 (m4 I b (insF (I (b + 1)) (cntL (I (b + 1)) p n) n p) (insF (I (b + 2)) (cntL (I (b + 1)) p n) n x) (insF (I (b + 3)) (cntL (I (b + 1)) p n) n 0) (insF (I (b + 4)) (cntL (I (b + 1)) p n) n 0)) b 0 (nI (n + 1))) L R) := by
  refine PMet.of mf_X2_insert (Nat.le_of_ble_eq_true rfl) ?_
  intro X h hr hml
  have hml : (xc X).maxLocals = 5 := hml
  have h : PXok X RX2 cX2_insert 2 0 0 := h
  have hr : PXr X (some .int) "insert" _ 0 0 := hr
  have hL0 := hL
  obtain ⟨f0, f1, f2, f3, f4, f5, g1, g2, g3, g4, g5⟩ := hL
  obtain ⟨m, hm⟩ : ∃ m, m = cntL (I (b + 1)) p n := ⟨_, rfl⟩
  have hmn : m ≤ n := by rw [hm]; exact cntL_le
  rw [← hm] at hr
  show PW X 0 [(0, .ref b), (1, .int p), (2, .int x)] [] sh I L R 0 0
  refine pw_aload_n h 0 d_X2_insert_0 rfl ?_
  refine pw_getI 2 h d_X2_insert_1 fd_RX2_9 (by assumption) rfl ?_
  refine pw_bipush (x := 6) h d_X2_insert_4 (by decide) ?_
  refine pw_icmp_lt 12 h d_X2_insert_6 (by decide) (fun c_6 => ?_) (fun c_6 => ?_)
  · skip
    refine pw_aload_n h 0 d_X2_insert_12 rfl ?_
    refine pw_iload_n h 1 d_X2_insert_13 rfl ?_
    refine pw_callV (As := [.int _]) h d_X2_insert_14 mf_X2_bearingsBelow mi_X2_bearingsBelow ml_RX2_41 ⟨by decide, by decide, by decide⟩ (by assumption) rfl rfl (Nat.le_of_ble_eq_true rfl) trivial (c_X2_bearingsBelow hL0 hn h6 p) ?_
    refine PKk.ret ?_
    refine pw_nmI (fun v3_17 e3_17 => ?_)
    refine pw_istore_n (lv' := [(3, .int v3_17), (0, .ref b), (1, .int p), (2, .int x)]) h d_X2_insert_17 rfl _ hml (by decide) rfl ?_
    have ev3 : v3_17 = nI m := by rw [e3_17, hm]
    refine pw_aload_n h 1 d_X2_insert_18 rfl ?_
    refine pw_getI 2 h d_X2_insert_19 fd_RX2_9 (by assumption) rfl ?_
    refine pw_nmI (fun v4_22 e4_22 => ?_)
    refine pw_istore (lv' := [(4, .int v4_22), (3, .int v3_17), (0, .ref b), (1, .int p), (2, .int x)]) h d_X2_insert_22 _ hml (by decide) rfl ?_
    have cut_24 : ∀ (N t : Nat) (v : Int32), t < m + N → m ≤ t → t ≤ n → v = nI t → PW X 24 [(0, .ref b), (1, .int p), (2, .int x), (3, .int v3_17), (4, .int v)] [] sh (m4 I b (shF (I (b + 1)) t n) (shF (I (b + 2)) t n) (shF (I (b + 3)) t n) (shF (I (b + 4)) t n)) L R 0 0 := by
      intro N
      induction N with
      | zero => intros; omega
      | succ N ih =>
        intro t v hN hmt htn ev
        refine pw_iload h 4 d_X2_insert_24 rfl ?_
        refine pw_iload_n h 3 d_X2_insert_26 rfl ?_
        refine pw_icmp_le 46 h d_X2_insert_27 (by decide) (fun c_27 => ?_) (fun c_27 => ?_)
        · skip
          have e : t = m := by rw [ev, ev3, nI_leI (by omega) (by omega)] at c_27; omega
          subst e
          have hx3 : px_ix v3_17 6 t := k_ix ev3 (by omega) (by decide)
          refine pw_aload_n h 0 d_X2_insert_46 rfl ?_
          refine pw_getR (j := (b + 1)) 2 h d_X2_insert_47 fd_RX2_15 (by assumption) rfl (by assumption) ?_
          refine pw_iload_n h 3 d_X2_insert_50 rfl ?_
          refine pw_iload_n h 1 d_X2_insert_51 rfl ?_
          refine pw_iast h d_X2_insert_52 (by assumption) (by assumption) ?_
          refine pw_aload_n h 0 d_X2_insert_53 rfl ?_
          refine pw_getR (j := (b + 2)) 2 h d_X2_insert_54 fd_RX2_19 (by assumption) rfl (by assumption) ?_
          refine pw_iload_n h 3 d_X2_insert_57 rfl ?_
          refine pw_iload_n h 2 d_X2_insert_58 rfl ?_
          refine pw_iast h d_X2_insert_59 (by assumption) (by assumption) ?_
          refine pw_aload_n h 0 d_X2_insert_60 rfl ?_
          refine pw_getR (j := (b + 3)) 2 h d_X2_insert_61 fd_RX2_22 (by assumption) rfl (by assumption) ?_
          refine pw_iload_n h 3 d_X2_insert_64 rfl ?_
          refine pw_iconst (x := 0) h d_X2_insert_65 (by decide) ?_
          refine pw_iast h d_X2_insert_66 (by assumption) (by assumption) ?_
          refine pw_aload_n h 0 d_X2_insert_67 rfl ?_
          refine pw_getR (j := (b + 4)) 2 h d_X2_insert_68 fd_RX2_25 (by assumption) rfl (by assumption) ?_
          refine pw_iload_n h 3 d_X2_insert_71 rfl ?_
          refine pw_iconst (x := 0) h d_X2_insert_72 (by decide) ?_
          refine pw_iast h d_X2_insert_73 (by assumption) (by assumption) ?_
          refine pw_aload_n h 0 d_X2_insert_74 rfl ?_
          refine pw_dupR h d_X2_insert_75 ?_
          refine pw_getI 2 h d_X2_insert_76 fd_RX2_9 (by assumption) rfl ?_
          refine pw_iconst (x := 1) h d_X2_insert_79 (by decide) ?_
          refine pw_iadd h d_X2_insert_80 ?_
          refine pw_putI 2 h d_X2_insert_81 fd_RX2_9 (by assumption) rfl rfl rfl rfl ?_
          refine pw_iload_n h 3 d_X2_insert_84 rfl ?_
          refine pw_iret h hr d_X2_insert_85 rfl (by decide) (by decide) ?_
          refine ⟨by rw [ev3], rfl, ?_, rfl, rfl⟩
          rw [m4_set]
          simp only [u2_n1 (show ¬ b = b + 4 by omega), u2_n1 (show ¬ b = b + 3 by omega), u2_n1 (show ¬ b = b + 2 by omega), u2_n1 (show ¬ b = b + 1 by omega), m4_0, hn, nI_1]
          rfl
        · skip
          have hgt : m < t := by rw [ev, ev3, nI_leI (by omega) (by omega)] at c_27; omega
          refine pw_aload_n h 0 d_X2_insert_30 rfl ?_
          refine pw_iload h 4 d_X2_insert_31 rfl ?_
          refine pw_iconst (x := 1) h d_X2_insert_33 (by decide) ?_
          refine pw_isub h d_X2_insert_34 ?_
          refine pw_iload h 4 d_X2_insert_35 rfl ?_
          refine pw_callV (As := [.int _, .int _]) h d_X2_insert_37 mf_X2_shift mi_X2_shift ml_RX2_45 ⟨by decide, by decide, by decide⟩ (by assumption) rfl rfl (Nat.le_of_ble_eq_true rfl) trivial (c_X2_shift hL0 (k_dn1 ev (by omega)) ev (by omega) (by omega)) ?_
          refine PKk.ret ?_
          rw [m4_set]
          rw [m4_1, m4_2, m4_3, m4_4, shF_s (by omega) (by omega), shF_s (by omega) (by omega), shF_s (by omega) (by omega), shF_s (by omega) (by omega)]
          obtain ⟨v4_40, e4_40⟩ : ∃ z : Int32, z = v + (-1) := ⟨_, rfl⟩
          refine pw_iinc (lv' := [(4, .int v4_40), (0, .ref b), (1, .int p), (2, .int x), (3, .int v3_17)]) v4_40 h d_X2_insert_40 4 rfl e4_40.symm _ hml (by decide) rfl ?_
          refine pw_goto 24 h d_X2_insert_43 (by decide) ?_
          refine PW.perm [1, 2, 3, 4, 0] rfl ?_
          exact ih (t - 1) v4_40 (by omega) (by omega) (by omega) (k_dn e4_40 ev (by omega))
    refine PW.perm [2, 3, 4, 1, 0] rfl ?_
    refine pw_mem (by rw [shF_0, shF_0, shF_0, shF_0, m4_self]) rfl rfl (cut_24 (n + 1) n v4_22 (by omega) (by omega) (by omega) (by rw [e4_22, hn]))
  · exact absurd (by rw [hn]; exact nI_lt (a := n) (b := 6) (by omega) (by omega)) c_6

set_option maxHeartbeats 4000000 in
set_option maxRecDepth 100000 in
theorem c_X2_delete {sh : Sh} {I : IM} {L : LM} {R : RM} {b n : Nat} (hL : LineF sh R b) (hn : I b 0 = nI n) (h6 : n ≤ 6) {m : Nat} (hmn : m < n) {w : Int32} (ew : w = nI m) : PMet M_X2_delete [.ref b, .int w] sh I L R (pRet none sh (u2 (m4 I b (dlF (I (b + 1)) m (n - 1)) (dlF (I (b + 2)) m (n - 1)) (dlF (I (b + 3)) m (n - 1)) (dlF (I (b + 4)) m (n - 1))) b 0 (nI (n - 1))) L R) := by
  refine PMet.of mf_X2_delete (Nat.le_of_ble_eq_true rfl) ?_
  intro X h hr hml
  have hml : (xc X).maxLocals = 3 := hml
  have h : PXok X RX2 cX2_delete 2 0 0 := h
  have hr : PXr X none "delete" _ 0 0 := hr
  have hL0 := hL
  obtain ⟨f0, f1, f2, f3, f4, f5, g1, g2, g3, g4, g5⟩ := hL
  show PW X 0 [(0, .ref b), (1, .int w)] [] sh I L R 0 0
  refine pw_iload_n h 1 d_X2_delete_0 rfl ?_
  refine pw_nmI (fun v2_1 e2_1 => ?_)
  refine pw_istore_n (lv' := [(2, .int v2_1), (0, .ref b), (1, .int w)]) h d_X2_delete_1 rfl _ hml (by decide) rfl ?_
  have cut_2 : ∀ (N t : Nat) (v : Int32), n ≤ t + N → m ≤ t → t < n → v = nI t → PW X 2 [(0, .ref b), (1, .int w), (2, .int v)] [] sh (m4 I b (dlF (I (b + 1)) m t) (dlF (I (b + 2)) m t) (dlF (I (b + 3)) m t) (dlF (I (b + 4)) m t)) L R 0 0 := by
    intro N
    induction N with
    | zero => intros; omega
    | succ N ih =>
      intro t v hN hmt htn ev
      refine pw_iload_n h 2 d_X2_delete_2 rfl ?_
      refine pw_iconst (x := 1) h d_X2_delete_3 (by decide) ?_
      refine pw_iadd h d_X2_delete_4 ?_
      refine pw_aload_n h 0 d_X2_delete_5 rfl ?_
      refine pw_getI 2 h d_X2_delete_6 fd_RX2_9 (by assumption) rfl ?_
      refine pw_icmp_ge 26 h d_X2_delete_9 (by decide) (fun c_9 => ?_) (fun c_9 => ?_)
      · skip
        have hge : n ≤ t + 1 := k_ge (i := t + 1) (by rw [ev]; exact nI_1 t) (by rw [m4_0]; exact hn) (by omega) (by omega) c_9
        have e : t = n - 1 := by omega
        subst e
        refine pw_aload_n h 0 d_X2_delete_26 rfl ?_
        refine pw_dupR h d_X2_delete_27 ?_
        refine pw_getI 2 h d_X2_delete_28 fd_RX2_9 (by assumption) rfl ?_
        refine pw_iconst (x := 1) h d_X2_delete_31 (by decide) ?_
        refine pw_isub h d_X2_delete_32 ?_
        refine pw_putI 2 h d_X2_delete_33 fd_RX2_9 (by assumption) rfl rfl rfl rfl ?_
        refine pw_vret h hr d_X2_delete_36 (by decide) (by decide) ?_
        refine ⟨rfl, rfl, ?_, rfl, rfl⟩
        rw [m4_0, hn, show nI n - 1 = nI (n - 1) from k_dn1 rfl (by omega)]
      · skip
        have hlt : t + 1 < n := k_lt (i := t + 1) (by rw [ev]; exact nI_1 t) (by rw [m4_0]; exact hn) (by omega) (by omega) c_9
        refine pw_aload_n h 0 d_X2_delete_12 rfl ?_
        refine pw_iload_n h 2 d_X2_delete_13 rfl ?_
        refine pw_iconst (x := 1) h d_X2_delete_14 (by decide) ?_
        refine pw_iadd h d_X2_delete_15 ?_
        refine pw_iload_n h 2 d_X2_delete_16 rfl ?_
        refine pw_callV (As := [.int _, .int _]) h d_X2_delete_17 mf_X2_shift mi_X2_shift ml_RX2_45 ⟨by decide, by decide, by decide⟩ (by assumption) rfl rfl (Nat.le_of_ble_eq_true rfl) trivial (c_X2_shift hL0 (by rw [ev]; exact nI_1 t) ev (by omega) (by omega)) ?_
        refine PKk.ret ?_
        rw [m4_set]
        rw [m4_1, m4_2, m4_3, m4_4, dlF_s (by omega), dlF_s (by omega), dlF_s (by omega), dlF_s (by omega)]
        obtain ⟨v2_20, e2_20⟩ : ∃ z : Int32, z = v + (1) := ⟨_, rfl⟩
        refine pw_iinc (lv' := [(2, .int v2_20), (0, .ref b), (1, .int w)]) v2_20 h d_X2_delete_20 2 rfl e2_20.symm _ hml (by decide) rfl ?_
        refine pw_goto 2 h d_X2_delete_23 (by decide) ?_
        refine PW.perm [1, 2, 0] rfl ?_
        exact ih (t + 1) v2_20 (by omega) (by omega) (by omega) (k_up e2_20 ev)
  refine PW.perm [1, 2, 0] rfl ?_
  refine pw_mem (by rw [dlF_0, dlF_0, dlF_0, dlF_0, m4_self]) rfl rfl (cut_2 n m v2_1 (by omega) (by omega) (by omega) (by rw [e2_1, ew]))

set_option maxHeartbeats 4000000 in
set_option maxRecDepth 100000 in
theorem c_X2_missing {sh : Sh} {I : IM} {L : LM} {R : RM} {b n : Nat} (hL : LineF sh R b) (hn : I b 0 = nI n) (h6 : n ≤ 6) : PMet M_X2_missing [.ref b] sh I L R (pRet (some (.int (missI (sumI (I (b + 5)) 13) (I (b + 4)) n))) sh I L R) := by
  refine PMet.of mf_X2_missing (Nat.le_of_ble_eq_true rfl) ?_
  intro X h hr hml
  have hml : (xc X).maxLocals = 3 := hml
  have h : PXok X RX2 cX2_missing 2 0 0 := h
  have hr : PXr X (some .int) "missing" _ 0 0 := hr
  have hL0 := hL
  obtain ⟨f0, f1, f2, f3, f4, f5, g1, g2, g3, g4, g5⟩ := hL
  show PW X 0 [(0, .ref b)] [] sh I L R 0 0
  refine pw_aload_n h 0 d_X2_missing_0 rfl ?_
  refine pw_callV (As := []) h d_X2_missing_1 mf_X2_allWeights mi_X2_allWeights ml_RX2_49 ⟨by decide, by decide, by decide⟩ (by assumption) rfl rfl (Nat.le_of_ble_eq_true rfl) trivial (c_X2_allWeights hL0) ?_
  refine PKk.ret ?_
  refine pw_nmI (fun v1_4 e1_4 => ?_)
  refine pw_istore_n (lv' := [(1, .int v1_4), (0, .ref b)]) h d_X2_missing_4 rfl _ hml (by decide) rfl ?_
  refine pw_iconst (x := 0) h d_X2_missing_5 (by decide) ?_
  refine pw_nmI (fun v2_6 e2_6 => ?_)
  refine pw_istore_n (lv' := [(2, .int v2_6), (1, .int v1_4), (0, .ref b)]) h d_X2_missing_6 rfl _ hml (by decide) rfl ?_
  have cut_7 : ∀ (N i : Nat) (a v : Int32), n < i + N → i ≤ n → v = nI i → a = missI (sumI (I (b + 5)) 13) (I (b + 4)) i → PW X 7 [(0, .ref b), (1, .int a), (2, .int v)] [] sh I L R 0 0 := by
    intro N
    induction N with
    | zero => intros; omega
    | succ N ih =>
      intro i a v hN hi ev ea
      refine pw_iload_n h 2 d_X2_missing_7 rfl ?_
      refine pw_aload_n h 0 d_X2_missing_8 rfl ?_
      refine pw_getI 2 h d_X2_missing_9 fd_RX2_9 (by assumption) rfl ?_
      refine pw_icmp_ge 30 h d_X2_missing_12 (by decide) (fun c_12 => ?_) (fun c_12 => ?_)
      · skip
        have hge := k_ge ev (n := n) hn (by omega) (by omega) c_12
        have e : i = n := by omega
        subst e
        refine pw_iload_n h 1 d_X2_missing_30 rfl ?_
        refine pw_iret h hr d_X2_missing_31 rfl (by decide) (by decide) ?_
        exact ⟨by rw [ea], rfl, rfl, rfl, rfl⟩
      · skip
        have hlt := k_lt ev (n := n) hn (by omega) (by omega) c_12
        have hx := k_ix ev (Nat.lt_of_lt_of_le hlt (show n ≤ 6 by omega)) (by decide)
        refine pw_iload_n h 1 d_X2_missing_15 rfl ?_
        refine pw_aload_n h 0 d_X2_missing_16 rfl ?_
        refine pw_getR (j := (b + 4)) 2 h d_X2_missing_17 fd_RX2_25 (by assumption) rfl (by assumption) ?_
        refine pw_iload_n h 2 d_X2_missing_20 rfl ?_
        refine pw_iald h d_X2_missing_21 (by assumption) (by assumption) ?_
        refine pw_isub h d_X2_missing_22 ?_
        refine pw_nmI (fun v1_23 e1_23 => ?_)
        refine pw_istore_n (lv' := [(1, .int v1_23), (0, .ref b), (2, .int v)]) h d_X2_missing_23 rfl _ hml (by decide) rfl ?_
        obtain ⟨v2_24, e2_24⟩ : ∃ z : Int32, z = v + (1) := ⟨_, rfl⟩
        refine pw_iinc (lv' := [(2, .int v2_24), (1, .int v1_23), (0, .ref b)]) v2_24 h d_X2_missing_24 2 rfl e2_24.symm _ hml (by decide) rfl ?_
        refine pw_goto 7 h d_X2_missing_27 (by decide) ?_
        refine PW.perm [2, 1, 0] rfl ?_
        exact ih (i + 1) v1_23 v2_24 (by omega) (by omega) (k_up e2_24 ev) (by rw [e1_23, ea]; rfl)
  refine PW.perm [2, 1, 0] rfl ?_
  exact cut_7 (n + 1) 0 v1_4 v2_6 (by omega) (by omega) e2_6 e1_4

set_option maxHeartbeats 4000000 in
set_option maxRecDepth 100000 in
theorem c_X2_missingMoment {sh : Sh} {I : IM} {L : LM} {R : RM} {b n : Nat} (hL : LineF sh R b) (hn : I b 0 = nI n) (h6 : n ≤ 6) : PMet M_X2_missingMoment [.ref b] sh I L R (pRet (some (.int (missM (momI (I (b + 5)) 13) (I (b + 1)) (I (b + 4)) n))) sh I L R) := by
  refine PMet.of mf_X2_missingMoment (Nat.le_of_ble_eq_true rfl) ?_
  intro X h hr hml
  have hml : (xc X).maxLocals = 3 := hml
  have h : PXok X RX2 cX2_missingMoment 1 0 0 := h
  have hr : PXr X (some .int) "missingMoment" _ 0 0 := hr
  have hL0 := hL
  obtain ⟨f0, f1, f2, f3, f4, f5, g1, g2, g3, g4, g5⟩ := hL
  show PW X 0 [(0, .ref b)] [] sh I L R 0 0
  refine pw_iconst (x := 0) h d_X2_missingMoment_0 (by decide) ?_
  refine pw_nmI (fun v1_1 e1_1 => ?_)
  refine pw_istore_n (lv' := [(1, .int v1_1), (0, .ref b)]) h d_X2_missingMoment_1 rfl _ hml (by decide) rfl ?_
  refine pw_iconst (x := 0) h d_X2_missingMoment_2 (by decide) ?_
  refine pw_nmI (fun v2_3 e2_3 => ?_)
  refine pw_istore_n (lv' := [(2, .int v2_3), (1, .int v1_1), (0, .ref b)]) h d_X2_missingMoment_3 rfl _ hml (by decide) rfl ?_
  have cut_4 : ∀ (N i : Nat) (a v : Int32), 13 < i + N → i ≤ 13 → v = nI i → a = momI (I (b + 5)) i → PW X 4 [(0, .ref b), (1, .int a), (2, .int v)] [] sh I L R 0 0 := by
    intro N
    induction N with
    | zero => intros; omega
    | succ N ih =>
      intro i a v hN hi ev ea
      refine pw_iload_n h 2 d_X2_missingMoment_4 rfl ?_
      refine pw_bipush (x := 13) h d_X2_missingMoment_5 (by decide) ?_
      refine pw_icmp_ge 27 h d_X2_missingMoment_7 (by decide) (fun c_7 => ?_) (fun c_7 => ?_)
      · skip
        have hge := k_ge ev (n := 13) rfl (by omega) (by omega) c_7
        have e : i = 13 := by omega
        subst e
        refine pw_iconst (x := 0) h d_X2_missingMoment_27 (by decide) ?_
        refine pw_nmI (fun v2_28 e2_28 => ?_)
        refine pw_istore_n (lv' := [(2, .int v2_28), (0, .ref b), (1, .int a)]) h d_X2_missingMoment_28 rfl _ hml (by decide) rfl ?_
        have cut_29 : ∀ (N i : Nat) (a v : Int32), n < i + N → i ≤ n → v = nI i → a = missM (momI (I (b + 5)) 13) (I (b + 1)) (I (b + 4)) i → PW X 29 [(0, .ref b), (1, .int a), (2, .int v)] [] sh I L R 0 0 := by
          intro N
          induction N with
          | zero => intros; omega
          | succ N ih =>
            intro i a v hN hi ev ea
            refine pw_iload_n h 2 d_X2_missingMoment_29 rfl ?_
            refine pw_aload_n h 0 d_X2_missingMoment_30 rfl ?_
            refine pw_getI 2 h d_X2_missingMoment_31 fd_RX2_9 (by assumption) rfl ?_
            refine pw_icmp_ge 59 h d_X2_missingMoment_34 (by decide) (fun c_34 => ?_) (fun c_34 => ?_)
            · skip
              have hge := k_ge ev (n := n) hn (by omega) (by omega) c_34
              have e : i = n := by omega
              subst e
              refine pw_iload_n h 1 d_X2_missingMoment_59 rfl ?_
              refine pw_iret h hr d_X2_missingMoment_60 rfl (by decide) (by decide) ?_
              exact ⟨by rw [ea], rfl, rfl, rfl, rfl⟩
            · skip
              have hlt := k_lt ev (n := n) hn (by omega) (by omega) c_34
              have hx := k_ix ev (Nat.lt_of_lt_of_le hlt (show n ≤ 6 by omega)) (by decide)
              refine pw_iload_n h 1 d_X2_missingMoment_37 rfl ?_
              refine pw_aload_n h 0 d_X2_missingMoment_38 rfl ?_
              refine pw_getR (j := (b + 1)) 2 h d_X2_missingMoment_39 fd_RX2_15 (by assumption) rfl (by assumption) ?_
              refine pw_iload_n h 2 d_X2_missingMoment_42 rfl ?_
              refine pw_iald h d_X2_missingMoment_43 (by assumption) (by assumption) ?_
              refine pw_aload_n h 0 d_X2_missingMoment_44 rfl ?_
              refine pw_getR (j := (b + 4)) 2 h d_X2_missingMoment_45 fd_RX2_25 (by assumption) rfl (by assumption) ?_
              refine pw_iload_n h 2 d_X2_missingMoment_48 rfl ?_
              refine pw_iald h d_X2_missingMoment_49 (by assumption) (by assumption) ?_
              refine pw_imul h d_X2_missingMoment_50 ?_
              refine pw_isub h d_X2_missingMoment_51 ?_
              refine pw_nmI (fun v1_52 e1_52 => ?_)
              refine pw_istore_n (lv' := [(1, .int v1_52), (0, .ref b), (2, .int v)]) h d_X2_missingMoment_52 rfl _ hml (by decide) rfl ?_
              obtain ⟨v2_53, e2_53⟩ : ∃ z : Int32, z = v + (1) := ⟨_, rfl⟩
              refine pw_iinc (lv' := [(2, .int v2_53), (1, .int v1_52), (0, .ref b)]) v2_53 h d_X2_missingMoment_53 2 rfl e2_53.symm _ hml (by decide) rfl ?_
              refine pw_goto 29 h d_X2_missingMoment_56 (by decide) ?_
              refine PW.perm [2, 1, 0] rfl ?_
              exact ih (i + 1) v1_52 v2_53 (by omega) (by omega) (k_up e2_53 ev) (by rw [e1_52, ea]; rfl)
        refine PW.perm [1, 2, 0] rfl ?_
        exact cut_29 (n + 1) 0 a v2_28 (by omega) (by omega) e2_28 ea
      · skip
        have hlt := k_lt ev (n := 13) rfl (by omega) (by omega) c_7
        have hx := k_ix ev (Nat.lt_of_lt_of_le hlt (show 13 ≤ 13 by omega)) (by decide)
        refine pw_iload_n h 1 d_X2_missingMoment_10 rfl ?_
        refine pw_iload_n h 2 d_X2_missingMoment_11 rfl ?_
        refine pw_aload_n h 0 d_X2_missingMoment_12 rfl ?_
        refine pw_getR (j := (b + 5)) 2 h d_X2_missingMoment_13 fd_RX2_28 (by assumption) rfl (by assumption) ?_
        refine pw_iload_n h 2 d_X2_missingMoment_16 rfl ?_
        refine pw_iald h d_X2_missingMoment_17 (by assumption) (by assumption) ?_
        refine pw_imul h d_X2_missingMoment_18 ?_
        refine pw_iadd h d_X2_missingMoment_19 ?_
        refine pw_nmI (fun v1_20 e1_20 => ?_)
        refine pw_istore_n (lv' := [(1, .int v1_20), (0, .ref b), (2, .int v)]) h d_X2_missingMoment_20 rfl _ hml (by decide) rfl ?_
        obtain ⟨v2_21, e2_21⟩ : ∃ z : Int32, z = v + (1) := ⟨_, rfl⟩
        refine pw_iinc (lv' := [(2, .int v2_21), (1, .int v1_20), (0, .ref b)]) v2_21 h d_X2_missingMoment_21 2 rfl e2_21.symm _ hml (by decide) rfl ?_
        refine pw_goto 4 h d_X2_missingMoment_24 (by decide) ?_
        refine PW.perm [2, 1, 0] rfl ?_
        exact ih (i + 1) v1_20 v2_21 (by omega) (by omega) (k_up e2_21 ev) (by rw [e1_20, ea, ev]; rfl)
  refine PW.perm [2, 1, 0] rfl ?_
  exact cut_4 14 0 v1_1 v2_3 (by omega) (by omega) e2_3 e1_1

set_option maxHeartbeats 4000000 in
set_option maxRecDepth 100000 in
theorem c_X2_isWrong {sh : Sh} {I : IM} {L : LM} {R : RM} {b n : Nat} (hL : LineF sh R b) (hn : I b 0 = nI n) (h6 : n ≤ 6) {i : Nat} {v : Int32} (ev : v = nI i) (hi : i < 6) : PMet M_X2_isWrong [.ref b, .int v] sh I L R (pRet (some (.int (bI (wrongB (missI (sumI (I (b + 5)) 13) (I (b + 4)) n) (missM (momI (I (b + 5)) 13) (I (b + 1)) (I (b + 4)) n) (I (b + 1) i))))) sh I L R) := by
  refine PMet.of mf_X2_isWrong (Nat.le_of_ble_eq_true rfl) ?_
  intro X h hr hml
  have hml : (xc X).maxLocals = 3 := hml
  have h : PXok X RX2 cX2_isWrong 3 0 0 := h
  have hr : PXr X (some .boolean) "isWrong" _ 0 0 := hr
  have hL0 := hL
  obtain ⟨f0, f1, f2, f3, f4, f5, g1, g2, g3, g4, g5⟩ := hL
  have hx := k_ix ev hi (by decide)
  show PW X 0 [(0, .ref b), (1, .int v)] [] sh I L R 0 0
  refine pw_aload_n h 0 d_X2_isWrong_0 rfl ?_
  refine pw_callV (As := []) h d_X2_isWrong_1 mf_X2_missing mi_X2_missing ml_RX2_53 ⟨by decide, by decide, by decide⟩ (by assumption) rfl rfl (Nat.le_of_ble_eq_true rfl) trivial (c_X2_missing hL0 hn h6) ?_
  refine PKk.ret ?_
  refine pw_nmI (fun v2_4 e2_4 => ?_)
  refine pw_istore_n (lv' := [(2, .int v2_4), (0, .ref b), (1, .int v)]) h d_X2_isWrong_4 rfl _ hml (by decide) rfl ?_
  refine pw_iload_n h 0 d_X2_isWrong_5 rfl ?_
  refine pw_if_eq 28 h d_X2_isWrong_6 (by decide) (fun c_6 => ?_) (fun c_6 => ?_)
  · skip
    refine pw_iconst (x := 0) h d_X2_isWrong_28 (by decide) ?_
    refine pw_iret h hr d_X2_isWrong_29 rfl (by decide) (by decide) ?_
    first | exact ⟨congrArg (fun z => some (Value.int z)) (bI_t (decide_eq_true ⟨by rw [← e2_4]; assumption, by rw [← e2_4]; assumption⟩)), rfl, rfl, rfl, rfl⟩ | exact ⟨congrArg (fun z => some (Value.int z)) (bI_f (decide_eq_false (by rw [← e2_4]; exact fun q => by first | exact q.1 (by assumption) | exact absurd q.2 (by assumption)))), rfl, rfl, rfl, rfl⟩
  · skip
    refine pw_iload_n h 0 d_X2_isWrong_9 rfl ?_
    refine pw_aload_n h 1 d_X2_isWrong_10 rfl ?_
    refine pw_getR (j := (b + 1)) 2 h d_X2_isWrong_11 fd_RX2_15 (by assumption) rfl (by assumption) ?_
    refine pw_iload_n h 2 d_X2_isWrong_14 rfl ?_
    refine pw_iald h d_X2_isWrong_15 (by assumption) (by assumption) ?_
    refine pw_imul h d_X2_isWrong_16 ?_
    refine pw_aload_n h 1 d_X2_isWrong_17 rfl ?_
    refine pw_callV (As := []) h d_X2_isWrong_18 mf_X2_missingMoment mi_X2_missingMoment ml_RX2_56 ⟨by decide, by decide, by decide⟩ (by assumption) rfl rfl (Nat.le_of_ble_eq_true rfl) trivial (c_X2_missingMoment hL0 hn h6) ?_
    refine PKk.ret ?_
    refine pw_icmp_ne 28 h d_X2_isWrong_21 (by decide) (fun c_21 => ?_) (fun c_21 => ?_)
    · skip
      refine pw_iconst (x := 0) h d_X2_isWrong_28 (by decide) ?_
      refine pw_iret h hr d_X2_isWrong_29 rfl (by decide) (by decide) ?_
      first | exact ⟨congrArg (fun z => some (Value.int z)) (bI_t (decide_eq_true ⟨by rw [← e2_4]; assumption, by rw [← e2_4]; assumption⟩)), rfl, rfl, rfl, rfl⟩ | exact ⟨congrArg (fun z => some (Value.int z)) (bI_f (decide_eq_false (by rw [← e2_4]; exact fun q => by first | exact q.1 (by assumption) | exact absurd q.2 (by assumption)))), rfl, rfl, rfl, rfl⟩
    · skip
      refine pw_iconst (x := 1) h d_X2_isWrong_24 (by decide) ?_
      refine pw_goto 29 h d_X2_isWrong_25 (by decide) ?_
      refine pw_iret h hr d_X2_isWrong_29 rfl (by decide) (by decide) ?_
      first | exact ⟨congrArg (fun z => some (Value.int z)) (bI_t (decide_eq_true ⟨by rw [← e2_4]; assumption, by rw [← e2_4]; assumption⟩)), rfl, rfl, rfl, rfl⟩ | exact ⟨congrArg (fun z => some (Value.int z)) (bI_f (decide_eq_false (by rw [← e2_4]; exact fun q => by first | exact q.1 (by assumption) | exact absurd q.2 (by assumption)))), rfl, rfl, rfl, rfl⟩

set_option maxHeartbeats 4000000 in
set_option maxRecDepth 100000 in
theorem c_X2_wears {sh : Sh} {I : IM} {L : LM} {R : RM} {b : Nat} (hL : LineF sh R b) {i : Nat} {v : Int32} (ev : v = nI i) (hi : i < 6) (m : Int32) : PMet M_X2_wears [.ref b, .int v, .int m] sh I L R (pRet (some (.int (bI (decide (wearO (I (b + 2) i) (I (b + 3) i + m) < I (b + 2) i))))) sh (u2 (u2 I (b + 3) i (wearW (I (b + 3) i + m))) (b + 2) i (wearO (I (b + 2) i) (I (b + 3) i + m))) L R) := by
  refine PMet.of mf_X2_wears (Nat.le_of_ble_eq_true rfl) ?_
  intro X h hr hml
  have hml : (xc X).maxLocals = 5 := hml
  have h : PXok X RX2 cX2_wears 2 0 0 := h
  have hr : PXr X (some .boolean) "wears" _ 0 0 := hr
  have hL0 := hL
  obtain ⟨f0, f1, f2, f3, f4, f5, g1, g2, g3, g4, g5⟩ := hL
  have hx := k_ix ev hi (by decide)
  show PW X 0 [(0, .ref b), (1, .int v), (2, .int m)] [] sh I L R 0 0
  refine pw_aload_n h 0 d_X2_wears_0 rfl ?_
  refine pw_getR (j := (b + 3)) 2 h d_X2_wears_1 fd_RX2_22 (by assumption) rfl (by assumption) ?_
  refine pw_iload_n h 1 d_X2_wears_4 rfl ?_
  refine pw_dup2RI h d_X2_wears_5 ?_
  refine pw_iald h d_X2_wears_6 (by assumption) (by assumption) ?_
  refine pw_iload_n h 2 d_X2_wears_7 rfl ?_
  refine pw_iadd h d_X2_wears_8 ?_
  refine pw_iast h d_X2_wears_9 (by assumption) (by assumption) ?_
  refine pw_aload_n h 0 d_X2_wears_10 rfl ?_
  refine pw_getR (j := (b + 3)) 2 h d_X2_wears_11 fd_RX2_22 (by assumption) rfl (by assumption) ?_
  refine pw_iload_n h 1 d_X2_wears_14 rfl ?_
  refine pw_iald h d_X2_wears_15 (by assumption) (by assumption) ?_
  refine pw_i2l h d_X2_wears_16 ?_
  refine pw_ldc2 h d_X2_wears_17 ck_RX2_59 ?_
  refine pw_callSN (As := [.long _, .long _]) h d_X2_wears_20 mf_X7_cut st_yX7_cut nw_RX2_61 ⟨by decide, by decide, by decide⟩ rfl rfl (Nat.le_of_ble_eq_true rfl) c_X7_cut ?_
  refine PKk.ret ?_
  refine pw_l2i h d_X2_wears_23 ?_
  refine pw_nmI (fun v3_24 e3_24 => ?_)
  refine pw_istore_n (lv' := [(3, .int v3_24), (0, .ref b), (1, .int v), (2, .int m)]) h d_X2_wears_24 rfl _ hml (by decide) rfl ?_
  have e3 : v3_24 = wearQ (I (b + 3) i + m) := by rw [e3_24, u2_s]; rfl
  refine pw_aload_n h 1 d_X2_wears_25 rfl ?_
  refine pw_getR (j := (b + 3)) 2 h d_X2_wears_26 fd_RX2_22 (by assumption) rfl (by assumption) ?_
  refine pw_iload_n h 2 d_X2_wears_29 rfl ?_
  refine pw_dup2RI h d_X2_wears_30 ?_
  refine pw_iald h d_X2_wears_31 (by assumption) (by assumption) ?_
  refine pw_iload_n h 0 d_X2_wears_32 rfl ?_
  refine pw_sipush (x := 10000) h d_X2_wears_33 (by decide) ?_
  refine pw_imul h d_X2_wears_36 ?_
  refine pw_isub h d_X2_wears_37 ?_
  refine pw_iast h d_X2_wears_38 (by assumption) (by assumption) ?_
  refine pw_aload_n h 1 d_X2_wears_39 rfl ?_
  refine pw_getR (j := (b + 2)) 2 h d_X2_wears_40 fd_RX2_19 (by assumption) rfl (by assumption) ?_
  refine pw_iload_n h 2 d_X2_wears_43 rfl ?_
  refine pw_iald h d_X2_wears_44 (by assumption) (by assumption) ?_
  refine pw_nmI (fun v4_45 e4_45 => ?_)
  refine pw_istore (lv' := [(4, .int v4_45), (3, .int v3_24), (0, .ref b), (1, .int v), (2, .int m)]) h d_X2_wears_45 _ hml (by decide) rfl ?_
  have e4 : v4_45 = I (b + 2) i := by rw [e4_45, u2_n1 (by omega), u2_n1 (by omega)]
  refine pw_aload_n h 2 d_X2_wears_47 rfl ?_
  refine pw_getR (j := (b + 2)) 2 h d_X2_wears_48 fd_RX2_19 (by assumption) rfl (by assumption) ?_
  refine pw_iload_n h 3 d_X2_wears_51 rfl ?_
  refine pw_bipush (x := (-50)) h d_X2_wears_52 (by decide) ?_
  refine pw_iload h 0 d_X2_wears_54 rfl ?_
  refine pw_iload_n h 1 d_X2_wears_56 rfl ?_
  refine pw_isub h d_X2_wears_57 ?_
  refine pw_mmax h d_X2_wears_58 ml_RX2_65 (by decide) (Nat.le_of_ble_eq_true rfl) (by decide) (by decide) ?_
  refine pw_iast h d_X2_wears_61 (by assumption) (by assumption) ?_
  refine pw_mem (I' := u2 (u2 I (b + 3) i (wearW (I (b + 3) i + m))) (b + 2) i (wearO (I (b + 2) i) (I (b + 3) i + m))) ?_ rfl rfl ?_
  · rw [u2_s, e3, e4, u2_u2]
    rfl
  refine pw_aload_n h 2 d_X2_wears_62 rfl ?_
  refine pw_getR (j := (b + 2)) 2 h d_X2_wears_63 fd_RX2_19 (by assumption) rfl (by assumption) ?_
  refine pw_iload_n h 3 d_X2_wears_66 rfl ?_
  refine pw_iald h d_X2_wears_67 (by assumption) (by assumption) ?_
  refine pw_iload h 0 d_X2_wears_68 rfl ?_
  refine pw_icmp_ge 77 h d_X2_wears_70 (by decide) (fun c_70 => ?_) (fun c_70 => ?_)
  · skip
    refine pw_iconst (x := 0) h d_X2_wears_77 (by decide) ?_
    refine pw_iret h hr d_X2_wears_78 rfl (by decide) (by decide) ?_
    rw [u2_s, e4] at c_70
    first | exact ⟨congrArg (fun z => some (Value.int z)) (bI_t (decide_eq_true c_70)), rfl, rfl, rfl, rfl⟩ | exact ⟨congrArg (fun z => some (Value.int z)) (bI_f (decide_eq_false (by rw [Int32.lt_iff_toInt_lt]; rw [Int32.le_iff_toInt_le] at c_70; omega))), rfl, rfl, rfl, rfl⟩ | exact ⟨congrArg (fun z => some (Value.int z)) (bI_t (decide_eq_true (by rw [Int32.lt_iff_toInt_lt]; rw [Int32.le_iff_toInt_le] at c_70; omega))), rfl, rfl, rfl, rfl⟩
  · skip
    refine pw_iconst (x := 1) h d_X2_wears_73 (by decide) ?_
    refine pw_goto 78 h d_X2_wears_74 (by decide) ?_
    refine pw_iret h hr d_X2_wears_78 rfl (by decide) (by decide) ?_
    rw [u2_s, e4] at c_70
    first | exact ⟨congrArg (fun z => some (Value.int z)) (bI_t (decide_eq_true c_70)), rfl, rfl, rfl, rfl⟩ | exact ⟨congrArg (fun z => some (Value.int z)) (bI_f (decide_eq_false (by rw [Int32.lt_iff_toInt_lt]; rw [Int32.le_iff_toInt_le] at c_70; omega))), rfl, rfl, rfl, rfl⟩ | exact ⟨congrArg (fun z => some (Value.int z)) (bI_t (decide_eq_true (by rw [Int32.lt_iff_toInt_lt]; rw [Int32.le_iff_toInt_le] at c_70; omega))), rfl, rfl, rfl, rfl⟩

set_option maxHeartbeats 4000000 in
set_option maxRecDepth 100000 in
theorem c_X7_byteOf {x : Int64} {j : Int32} {sh : Sh} {I : IM} {L : LM} {R : RM} : PMet M_X7_byteOf [.long x, .int j] sh I L R (pRet (some (.int ((x >>> ((8 * j).toInt64 &&& 63)) &&& 255).toInt32)) sh I L R) := by
  refine PMet.of mf_X7_byteOf (Nat.le_of_ble_eq_true rfl) ?_
  intro X h hr hml
  have hml : (xc X).maxLocals = 3 := hml
  have h : PXok X RX7 cX7_byteOf 1 0 0 := h
  have hr : PXr X (some .int) "byteOf" _ 0 0 := hr
  show PW X 0 [(0, .long x), (2, .int j)] [] sh I L R 0 0
  refine pw_lload_n h 0 d_X7_byteOf_0 rfl ?_
  refine pw_bipush (x := 8) h d_X7_byteOf_1 (by decide) ?_
  refine pw_iload_n h 1 d_X7_byteOf_3 rfl ?_
  refine pw_imul h d_X7_byteOf_4 ?_
  refine pw_lshr h d_X7_byteOf_5 ?_
  refine pw_ldc2 h d_X7_byteOf_6 ck_RX7_314 ?_
  refine pw_land h d_X7_byteOf_9 ?_
  refine pw_l2i h d_X7_byteOf_10 ?_
  refine pw_iret h hr d_X7_byteOf_11 rfl (by decide) (by decide) ?_
  exact ⟨rfl, rfl, rfl, rfl, rfl⟩

set_option maxHeartbeats 4000000 in
set_option maxRecDepth 100000 in
theorem c_X7_refusal {x : Int32} {sh : Sh} {I : IM} {L : LM} {R : RM} : PMet M_X7_refusal [.int x] sh I L R (pRet (some (.long (x.toInt64 - 1099511627776))) sh I L R) := by
  refine PMet.of mf_X7_refusal (Nat.le_of_ble_eq_true rfl) ?_
  intro X h hr hml
  have hml : (xc X).maxLocals = 1 := hml
  have h : PXok X RX7 cX7_refusal 1 0 0 := h
  have hr : PXr X (some .long) "refusal" _ 0 0 := hr
  show PW X 0 [(0, .int x)] [] sh I L R 0 0
  refine pw_iload_n h 0 d_X7_refusal_0 rfl ?_
  refine pw_i2l h d_X7_refusal_1 ?_
  refine pw_ldc2 h d_X7_refusal_2 ck_RX7_316 ?_
  refine pw_lsub h d_X7_refusal_5 ?_
  refine pw_lret h hr d_X7_refusal_6 (by decide) (by decide) ?_
  exact ⟨rfl, rfl, rfl, rfl, rfl⟩
