set_option maxHeartbeats 4000000 in
set_option maxRecDepth 100000 in
theorem c_X8_isPlace {v : Int32} {sh : Sh} {I : IM} {L : LM} {R : RM} : PMet M_X8_isPlace [.int v] sh I L R (pRet (some (.int (bI (isW v 0 12)))) sh I L R) := by
  refine PMet.of mf_X8_isPlace (Nat.le_of_ble_eq_true rfl) ?_
  intro X h hr hml
  have hml : (xc X).maxLocals = 1 := hml
  have h : PXok X RX8 cX8_isPlace 2 0 0 := h
  have hr : PXr X (some .boolean) "isPlace" _ 0 0 := hr
  show PW X 0 [(0, .int v)] [] sh I L R 0 0
  refine pw_iload_n h 0 d_X8_isPlace_0 rfl ?_
  refine pw_i2l h d_X8_isPlace_1 ?_
  refine pw_lconst (x := 0) h d_X8_isPlace_2 (by decide) ?_
  refine pw_ldc2 h d_X8_isPlace_3 ck_RX8_103 ?_
  refine pw_callS (As := [.long _, .long _, .long _]) h d_X8_isPlace_6 mf_X8_in st_yX8_in ml_RX8_105 ⟨by decide, by decide, by decide⟩ rfl rfl (Nat.le_of_ble_eq_true rfl) c_X8_in ?_
  refine PKk.ret ?_
  refine pw_iret h hr d_X8_isPlace_9 (bI_n _ rfl) (by decide) (by decide) ?_
  exact ⟨congrArg (fun z => some (Value.int (bI z))) (isWL_32 rfl rfl), rfl, rfl, rfl, rfl⟩

set_option maxHeartbeats 4000000 in
set_option maxRecDepth 100000 in
theorem c_X8_isState {v : Int32} {sh : Sh} {I : IM} {L : LM} {R : RM} : PMet M_X8_isState [.int v] sh I L R (pRet (some (.int (bI (isW v 0 3)))) sh I L R) := by
  refine PMet.of mf_X8_isState (Nat.le_of_ble_eq_true rfl) ?_
  intro X h hr hml
  have hml : (xc X).maxLocals = 1 := hml
  have h : PXok X RX8 cX8_isState 2 0 0 := h
  have hr : PXr X (some .boolean) "isState" _ 0 0 := hr
  show PW X 0 [(0, .int v)] [] sh I L R 0 0
  refine pw_iload_n h 0 d_X8_isState_0 rfl ?_
  refine pw_i2l h d_X8_isState_1 ?_
  refine pw_lconst (x := 0) h d_X8_isState_2 (by decide) ?_
  refine pw_ldc2 h d_X8_isState_3 ck_RX8_133 ?_
  refine pw_callS (As := [.long _, .long _, .long _]) h d_X8_isState_6 mf_X8_in st_yX8_in ml_RX8_105 ⟨by decide, by decide, by decide⟩ rfl rfl (Nat.le_of_ble_eq_true rfl) c_X8_in ?_
  refine PKk.ret ?_
  refine pw_iret h hr d_X8_isState_9 (bI_n _ rfl) (by decide) (by decide) ?_
  exact ⟨congrArg (fun z => some (Value.int (bI z))) (isWL_32 rfl rfl), rfl, rfl, rfl, rfl⟩

set_option maxHeartbeats 4000000 in
set_option maxRecDepth 100000 in
theorem c_X8_isSheet {v : Int32} {sh : Sh} {I : IM} {L : LM} {R : RM} : PMet M_X8_isSheet [.int v] sh I L R (pRet (some (.int (bI (isW v 0 3)))) sh I L R) := by
  refine PMet.of mf_X8_isSheet (Nat.le_of_ble_eq_true rfl) ?_
  intro X h hr hml
  have hml : (xc X).maxLocals = 1 := hml
  have h : PXok X RX8 cX8_isSheet 2 0 0 := h
  have hr : PXr X (some .boolean) "isSheet" _ 0 0 := hr
  show PW X 0 [(0, .int v)] [] sh I L R 0 0
  refine pw_iload_n h 0 d_X8_isSheet_0 rfl ?_
  refine pw_i2l h d_X8_isSheet_1 ?_
  refine pw_lconst (x := 0) h d_X8_isSheet_2 (by decide) ?_
  refine pw_ldc2 h d_X8_isSheet_3 ck_RX8_133 ?_
  refine pw_callS (As := [.long _, .long _, .long _]) h d_X8_isSheet_6 mf_X8_in st_yX8_in ml_RX8_105 ⟨by decide, by decide, by decide⟩ rfl rfl (Nat.le_of_ble_eq_true rfl) c_X8_in ?_
  refine PKk.ret ?_
  refine pw_iret h hr d_X8_isSheet_9 (bI_n _ rfl) (by decide) (by decide) ?_
  exact ⟨congrArg (fun z => some (Value.int (bI z))) (isWL_32 rfl rfl), rfl, rfl, rfl, rfl⟩

set_option maxHeartbeats 4000000 in
set_option maxRecDepth 100000 in
theorem c_X8_isLane {v : Int32} {sh : Sh} {I : IM} {L : LM} {R : RM} : PMet M_X8_isLane [.int v] sh I L R (pRet (some (.int (bI (isW v 0 2)))) sh I L R) := by
  refine PMet.of mf_X8_isLane (Nat.le_of_ble_eq_true rfl) ?_
  intro X h hr hml
  have hml : (xc X).maxLocals = 1 := hml
  have h : PXok X RX8 cX8_isLane 2 0 0 := h
  have hr : PXr X (some .boolean) "isLane" _ 0 0 := hr
  show PW X 0 [(0, .int v)] [] sh I L R 0 0
  refine pw_iload_n h 0 d_X8_isLane_0 rfl ?_
  refine pw_i2l h d_X8_isLane_1 ?_
  refine pw_lconst (x := 0) h d_X8_isLane_2 (by decide) ?_
  refine pw_ldc2 h d_X8_isLane_3 ck_RX8_209 ?_
  refine pw_callS (As := [.long _, .long _, .long _]) h d_X8_isLane_6 mf_X8_in st_yX8_in ml_RX8_105 ⟨by decide, by decide, by decide⟩ rfl rfl (Nat.le_of_ble_eq_true rfl) c_X8_in ?_
  refine PKk.ret ?_
  refine pw_iret h hr d_X8_isLane_9 (bI_n _ rfl) (by decide) (by decide) ?_
  exact ⟨congrArg (fun z => some (Value.int (bI z))) (isWL_32 rfl rfl), rfl, rfl, rfl, rfl⟩

set_option maxHeartbeats 4000000 in
set_option maxRecDepth 100000 in
theorem c_X8_isBearing {v : Int32} {sh : Sh} {I : IM} {L : LM} {R : RM} {m n : Nat} (hM : ModF sh R m) (hn : I m 0 = nI n) (h6 : n ≤ 6) : PMet M_X8_isBearing [.ref m, .int v] sh I L R (pRet (some (.int (bI (decide (0 ≤ v.toInt ∧ v.toInt < n))))) sh I L R) := by
  refine PMet.of mf_X8_isBearing (Nat.le_of_ble_eq_true rfl) ?_
  intro X h hr hml
  have hml : (xc X).maxLocals = 2 := hml
  have h : PXok X RX8 cX8_isBearing 2 0 0 := h
  have hr : PXr X (some .boolean) "isBearing" _ 0 0 := hr
  obtain ⟨f0, f1, f2, f3, f4, f5, f6, f7, f8, f9, f10, f11, f12, f13, f14, f15, f16, f17, f18, f19, f20, f21, f22, f23, f24, f25, f26, f27, g1, g2, g3, g4, g5, g6, g7, g8, g9, g10, g11, g12, g13, g14, g15, g16, g17, g18, g19, g20, g21, g22, g23, g24, g25, g26, g27⟩ := hM
  show PW X 0 [(0, .ref m), (1, .int v)] [] sh I L R 0 0
  refine pw_iload_n h 1 d_X8_isBearing_0 rfl ?_
  refine pw_i2l h d_X8_isBearing_1 ?_
  refine pw_lconst (x := 0) h d_X8_isBearing_2 (by decide) ?_
  refine pw_aload_n h 0 d_X8_isBearing_3 rfl ?_
  refine pw_getI 8 h d_X8_isBearing_4 fd_RX8_109 (by assumption) rfl ?_
  refine pw_iconst (x := 1) h d_X8_isBearing_7 (by decide) ?_
  refine pw_isub h d_X8_isBearing_8 ?_
  refine pw_i2l h d_X8_isBearing_9 ?_
  refine pw_callS (As := [.long _, .long _, .long _]) h d_X8_isBearing_10 mf_X8_in st_yX8_in ml_RX8_105 ⟨by decide, by decide, by decide⟩ rfl rfl (Nat.le_of_ble_eq_true rfl) c_X8_in ?_
  refine PKk.ret ?_
  refine pw_iret h hr d_X8_isBearing_13 (bI_n _ rfl) (by decide) (by decide) ?_
  rw [hn]
  exact ⟨congrArg (fun z => some (Value.int (bI z))) (isB_64 h6), rfl, rfl, rfl, rfl⟩

set_option maxHeartbeats 4000000 in
set_option maxRecDepth 100000 in
theorem c_X8_bearingAt {sh : Sh} {I : IM} {L : LM} {R : RM} {m n : Nat} (hM : ModF sh R m) (hn : I m 0 = nI n) (h6 : n ≤ 6) (p : Int32) : PMet M_X8_bearingAt [.ref m, .int p] sh I L R (pRet (some (.int (sIdx (srch (I (m + 1)) p n) (-4)))) sh I L R) := by
  refine PMet.of mf_X8_bearingAt (Nat.le_of_ble_eq_true rfl) ?_
  intro X h hr hml
  have hml : (xc X).maxLocals = 3 := hml
  have h : PXok X RX8 cX8_bearingAt 1 0 0 := h
  have hr : PXr X (some .int) "bearingAt" _ 0 0 := hr
  obtain ⟨f0, f1, f2, f3, f4, f5, f6, f7, f8, f9, f10, f11, f12, f13, f14, f15, f16, f17, f18, f19, f20, f21, f22, f23, f24, f25, f26, f27, g1, g2, g3, g4, g5, g6, g7, g8, g9, g10, g11, g12, g13, g14, g15, g16, g17, g18, g19, g20, g21, g22, g23, g24, g25, g26, g27⟩ := hM
  show PW X 0 [(0, .ref m), (1, .int p)] [] sh I L R 0 0
  refine pw_iconst (x := 0) h d_X8_bearingAt_0 (by decide) ?_
  refine pw_nmI (fun v2_1 e2_1 => ?_)
  refine pw_istore_n (lv' := [(2, .int v2_1), (0, .ref m), (1, .int p)]) h d_X8_bearingAt_1 rfl _ hml (by decide) rfl ?_
  have cut_2 : ∀ (N i : Nat) (v : Int32), n < i + N → i ≤ n → v = nI i → srch (I (m + 1)) p i = none → PW X 2 [(0, .ref m), (1, .int p), (2, .int v)] [] sh I L R 0 0 := by
    intro N
    induction N with
    | zero => intros; omega
    | succ N ih =>
      intro i v hN hi ev hs
      refine pw_iload_n h 2 d_X8_bearingAt_2 rfl ?_
      refine pw_aload_n h 0 d_X8_bearingAt_3 rfl ?_
      refine pw_getI 8 h d_X8_bearingAt_4 fd_RX8_109 (by assumption) rfl ?_
      refine pw_icmp_ge 28 h d_X8_bearingAt_7 (by decide) (fun c_7 => ?_) (fun c_7 => ?_)
      · skip
        have hge := k_ge ev (n := n) hn (by omega) (by omega) c_7
        have e : i = n := by omega
        subst e
        refine pw_bipush (x := (-4)) h d_X8_bearingAt_28 (by decide) ?_
        refine pw_iret h hr d_X8_bearingAt_30 rfl (by decide) (by decide) ?_
        exact ⟨by rw [hs]; rfl, rfl, rfl, rfl, rfl⟩
      · skip
        have hlt := k_lt ev (n := n) hn (by omega) (by omega) c_7
        have hx := k_ix ev (Nat.lt_of_lt_of_le hlt (show n ≤ 6 by omega)) (by decide)
        refine pw_aload_n h 0 d_X8_bearingAt_10 rfl ?_
        refine pw_getR (j := (m + 1)) 8 h d_X8_bearingAt_11 fd_RX8_7 (by assumption) rfl (by assumption) ?_
        refine pw_iload_n h 2 d_X8_bearingAt_14 rfl ?_
        refine pw_iald h d_X8_bearingAt_15 (by assumption) (by assumption) ?_
        refine pw_iload_n h 1 d_X8_bearingAt_16 rfl ?_
        refine pw_icmp_ne 22 h d_X8_bearingAt_17 (by decide) (fun c_17 => ?_) (fun c_17 => ?_)
        · skip
          obtain ⟨v2_22, e2_22⟩ : ∃ z : Int32, z = v + (1) := ⟨_, rfl⟩
          refine pw_iinc (lv' := [(2, .int v2_22), (0, .ref m), (1, .int p)]) v2_22 h d_X8_bearingAt_22 2 rfl e2_22.symm _ hml (by decide) rfl ?_
          refine pw_goto 2 h d_X8_bearingAt_25 (by decide) ?_
          refine PW.perm [1, 2, 0] rfl ?_
          exact ih (i + 1) v2_22 (by omega) (by omega) (k_up e2_22 ev) (srch_no hs c_17)
        · skip
          refine pw_iload_n h 2 d_X8_bearingAt_20 rfl ?_
          refine pw_iret h hr d_X8_bearingAt_21 rfl (by decide) (by decide) ?_
          exact ⟨by rw [srch_at hs c_17 n hlt, ev]; rfl, rfl, rfl, rfl, rfl⟩
  refine PW.perm [1, 2, 0] rfl ?_
  exact cut_2 (n + 1) 0 v2_1 (by omega) (by omega) e2_1 rfl

set_option maxHeartbeats 4000000 in
set_option maxRecDepth 100000 in
theorem c_X8_allWeights {sh : Sh} {I : IM} {L : LM} {R : RM} {m : Nat} (hM : ModF sh R m) : PMet M_X8_allWeights [.ref m] sh I L R (pRet (some (.int (sumI (I (m + 5)) 13))) sh I L R) := by
  refine PMet.of mf_X8_allWeights (Nat.le_of_ble_eq_true rfl) ?_
  intro X h hr hml
  have hml : (xc X).maxLocals = 3 := hml
  have h : PXok X RX8 cX8_allWeights 1 0 0 := h
  have hr : PXr X (some .int) "allWeights" _ 0 0 := hr
  obtain ⟨f0, f1, f2, f3, f4, f5, f6, f7, f8, f9, f10, f11, f12, f13, f14, f15, f16, f17, f18, f19, f20, f21, f22, f23, f24, f25, f26, f27, g1, g2, g3, g4, g5, g6, g7, g8, g9, g10, g11, g12, g13, g14, g15, g16, g17, g18, g19, g20, g21, g22, g23, g24, g25, g26, g27⟩ := hM
  show PW X 0 [(0, .ref m)] [] sh I L R 0 0
  refine pw_iconst (x := 0) h d_X8_allWeights_0 (by decide) ?_
  refine pw_nmI (fun v1_1 e1_1 => ?_)
  refine pw_istore_n (lv' := [(1, .int v1_1), (0, .ref m)]) h d_X8_allWeights_1 rfl _ hml (by decide) rfl ?_
  refine pw_iconst (x := 0) h d_X8_allWeights_2 (by decide) ?_
  refine pw_nmI (fun v2_3 e2_3 => ?_)
  refine pw_istore_n (lv' := [(2, .int v2_3), (1, .int v1_1), (0, .ref m)]) h d_X8_allWeights_3 rfl _ hml (by decide) rfl ?_
  have cut_4 : ∀ (N i : Nat) (a v : Int32), 13 < i + N → i ≤ 13 → v = nI i → a = sumI (I (m + 5)) i → PW X 4 [(0, .ref m), (1, .int a), (2, .int v)] [] sh I L R 0 0 := by
    intro N
    induction N with
    | zero => intros; omega
    | succ N ih =>
      intro i a v hN hi ev ea
      refine pw_iload_n h 2 d_X8_allWeights_4 rfl ?_
      refine pw_bipush (x := 13) h d_X8_allWeights_5 (by decide) ?_
      refine pw_icmp_ge 25 h d_X8_allWeights_7 (by decide) (fun c_7 => ?_) (fun c_7 => ?_)
      · skip
        have hge := k_ge ev (n := 13) rfl (by omega) (by omega) c_7
        have e : i = 13 := by omega
        subst e
        refine pw_iload_n h 1 d_X8_allWeights_25 rfl ?_
        refine pw_iret h hr d_X8_allWeights_26 rfl (by decide) (by decide) ?_
        exact ⟨by rw [ea], rfl, rfl, rfl, rfl⟩
      · skip
        have hlt := k_lt ev (n := 13) rfl (by omega) (by omega) c_7
        have hx := k_ix ev (Nat.lt_of_lt_of_le hlt (show 13 ≤ 13 by omega)) (by decide)
        refine pw_iload_n h 1 d_X8_allWeights_10 rfl ?_
        refine pw_aload_n h 0 d_X8_allWeights_11 rfl ?_
        refine pw_getR (j := (m + 5)) 8 h d_X8_allWeights_12 fd_RX8_22 (by assumption) rfl (by assumption) ?_
        refine pw_iload_n h 2 d_X8_allWeights_15 rfl ?_
        refine pw_iald h d_X8_allWeights_16 (by assumption) (by assumption) ?_
        refine pw_iadd h d_X8_allWeights_17 ?_
        refine pw_nmI (fun v1_18 e1_18 => ?_)
        refine pw_istore_n (lv' := [(1, .int v1_18), (0, .ref m), (2, .int v)]) h d_X8_allWeights_18 rfl _ hml (by decide) rfl ?_
        obtain ⟨v2_19, e2_19⟩ : ∃ z : Int32, z = v + (1) := ⟨_, rfl⟩
        refine pw_iinc (lv' := [(2, .int v2_19), (1, .int v1_18), (0, .ref m)]) v2_19 h d_X8_allWeights_19 2 rfl e2_19.symm _ hml (by decide) rfl ?_
        refine pw_goto 4 h d_X8_allWeights_22 (by decide) ?_
        refine PW.perm [2, 1, 0] rfl ?_
        exact ih (i + 1) v1_18 v2_19 (by omega) (by omega) (k_up e2_19 ev) (by rw [e1_18, ea]; rfl)
  refine PW.perm [2, 1, 0] rfl ?_
  exact cut_4 14 0 v1_1 v2_3 (by omega) (by omega) e2_3 e1_1

set_option maxHeartbeats 4000000 in
set_option maxRecDepth 100000 in
theorem c_X8_lacks0 {sh : Sh} {I : IM} {L : LM} {R : RM} {m n : Nat} (hM : ModF sh R m) (hn : I m 0 = nI n) (h6 : n ≤ 6) : PMet M_X8_lacks [.ref m, .int 0] sh I L R (pRet (some (.int (missI (sumI (I (m + 5)) 13) (I (m + 4)) n))) sh I L R) := by
  refine PMet.of mf_X8_lacks (Nat.le_of_ble_eq_true rfl) ?_
  intro X h hr hml
  have hml : (xc X).maxLocals = 4 := hml
  have h : PXok X RX8 cX8_lacks 1 0 0 := h
  have hr : PXr X (some .int) "lacks" _ 0 0 := hr
  obtain ⟨f0, f1, f2, f3, f4, f5, f6, f7, f8, f9, f10, f11, f12, f13, f14, f15, f16, f17, f18, f19, f20, f21, f22, f23, f24, f25, f26, f27, g1, g2, g3, g4, g5, g6, g7, g8, g9, g10, g11, g12, g13, g14, g15, g16, g17, g18, g19, g20, g21, g22, g23, g24, g25, g26, g27⟩ := hM
  show PW X 0 [(0, .ref m), (1, .int 0)] [] sh I L R 0 0
  refine pw_iconst (x := 0) h d_X8_lacks_0 (by decide) ?_
  refine pw_nmI (fun v2_1 e2_1 => ?_)
  refine pw_istore_n (lv' := [(2, .int v2_1), (0, .ref m), (1, .int 0)]) h d_X8_lacks_1 rfl _ hml (by decide) rfl ?_
  refine pw_iconst (x := 0) h d_X8_lacks_2 (by decide) ?_
  refine pw_nmI (fun v3_3 e3_3 => ?_)
  refine pw_istore_n (lv' := [(3, .int v3_3), (2, .int v2_1), (0, .ref m), (1, .int 0)]) h d_X8_lacks_3 rfl _ hml (by decide) rfl ?_
  have cut_4 : ∀ (N i : Nat) (a v : Int32), 13 < i + N → i ≤ 13 → v = nI i → a = sumI (I (m + 5)) i → PW X 4 [(0, .ref m), (1, .int 0), (2, .int a), (3, .int v)] [] sh I L R 0 0 := by
    intro N
    induction N with
    | zero => intros; omega
    | succ N ih =>
      intro i a v hN hi ev ea
      refine pw_iload_n h 3 d_X8_lacks_4 rfl ?_
      refine pw_bipush (x := 13) h d_X8_lacks_5 (by decide) ?_
      refine pw_icmp_ge 40 h d_X8_lacks_7 (by decide) (fun c_7 => ?_) (fun c_7 => ?_)
      · skip
        have hge := k_ge ev (n := 13) rfl (by omega) (by omega) c_7
        have e : i = 13 := by omega
        subst e
        refine pw_iconst (x := 0) h d_X8_lacks_40 (by decide) ?_
        refine pw_nmI (fun v3_41 e3_41 => ?_)
        refine pw_istore_n (lv' := [(3, .int v3_41), (0, .ref m), (1, .int 0), (2, .int a)]) h d_X8_lacks_41 rfl _ hml (by decide) rfl ?_
        have cut_42 : ∀ (N i : Nat) (a v : Int32), n < i + N → i ≤ n → v = nI i → a = missI (sumI (I (m + 5)) 13) (I (m + 4)) i → PW X 42 [(0, .ref m), (1, .int 0), (2, .int a), (3, .int v)] [] sh I L R 0 0 := by
          intro N
          induction N with
          | zero => intros; omega
          | succ N ih =>
            intro i a v hN hi ev ea
            refine pw_iload_n h 3 d_X8_lacks_42 rfl ?_
            refine pw_aload_n h 0 d_X8_lacks_43 rfl ?_
            refine pw_getI 8 h d_X8_lacks_44 fd_RX8_109 (by assumption) rfl ?_
            refine pw_icmp_ge 85 h d_X8_lacks_47 (by decide) (fun c_47 => ?_) (fun c_47 => ?_)
            · skip
              have hge := k_ge ev (n := n) hn (by omega) (by omega) c_47
              have e : i = n := by omega
              subst e
              refine pw_iload_n h 2 d_X8_lacks_85 rfl ?_
              refine pw_iret h hr d_X8_lacks_86 rfl (by decide) (by decide) ?_
              exact ⟨by rw [ea], rfl, rfl, rfl, rfl⟩
            · skip
              have hlt := k_lt ev (n := n) hn (by omega) (by omega) c_47
              have hx := k_ix ev (Nat.lt_of_lt_of_le hlt (show n ≤ 6 by omega)) (by decide)
              refine pw_iload_n h 2 d_X8_lacks_50 rfl ?_
              refine pw_iload_n h 1 d_X8_lacks_51 rfl ?_
              refine pw_if_eq 71 h d_X8_lacks_52 (by decide) (fun c_52 => ?_) (fun c_52 => ?_)
              · skip
                refine pw_aload_n h 0 d_X8_lacks_71 rfl ?_
                refine pw_getR (j := (m + 4)) 8 h d_X8_lacks_72 fd_RX8_19 (by assumption) rfl (by assumption) ?_
                refine pw_iload_n h 3 d_X8_lacks_75 rfl ?_
                refine pw_iald h d_X8_lacks_76 (by assumption) (by assumption) ?_
                refine pw_isub h d_X8_lacks_77 ?_
                refine pw_nmI (fun v2_78 e2_78 => ?_)
                refine pw_istore_n (lv' := [(2, .int v2_78), (0, .ref m), (1, .int 0), (3, .int v)]) h d_X8_lacks_78 rfl _ hml (by decide) rfl ?_
                obtain ⟨v3_79, e3_79⟩ : ∃ z : Int32, z = v + (1) := ⟨_, rfl⟩
                refine pw_iinc (lv' := [(3, .int v3_79), (2, .int v2_78), (0, .ref m), (1, .int 0)]) v3_79 h d_X8_lacks_79 3 rfl e3_79.symm _ hml (by decide) rfl ?_
                refine pw_goto 42 h d_X8_lacks_82 (by decide) ?_
                refine PW.perm [2, 3, 1, 0] rfl ?_
                exact ih (i + 1) v2_78 v3_79 (by omega) (by omega) (k_up e3_79 ev) (by rw [e2_78, ea]; rfl)
              · exact absurd c_52 (by decide)
        refine PW.perm [1, 2, 3, 0] rfl ?_
        exact cut_42 (n + 1) 0 a v3_41 (by omega) (by omega) e3_41 ea
      · skip
        have hlt := k_lt ev (n := 13) rfl (by omega) (by omega) c_7
        have hx := k_ix ev (Nat.lt_of_lt_of_le hlt (show 13 ≤ 13 by omega)) (by decide)
        refine pw_iload_n h 2 d_X8_lacks_10 rfl ?_
        refine pw_iload_n h 1 d_X8_lacks_11 rfl ?_
        refine pw_if_eq 26 h d_X8_lacks_12 (by decide) (fun c_12 => ?_) (fun c_12 => ?_)
        · skip
          refine pw_aload_n h 0 d_X8_lacks_26 rfl ?_
          refine pw_getR (j := (m + 5)) 8 h d_X8_lacks_27 fd_RX8_22 (by assumption) rfl (by assumption) ?_
          refine pw_iload_n h 3 d_X8_lacks_30 rfl ?_
          refine pw_iald h d_X8_lacks_31 (by assumption) (by assumption) ?_
          refine pw_iadd h d_X8_lacks_32 ?_
          refine pw_nmI (fun v2_33 e2_33 => ?_)
          refine pw_istore_n (lv' := [(2, .int v2_33), (0, .ref m), (1, .int 0), (3, .int v)]) h d_X8_lacks_33 rfl _ hml (by decide) rfl ?_
          obtain ⟨v3_34, e3_34⟩ : ∃ z : Int32, z = v + (1) := ⟨_, rfl⟩
          refine pw_iinc (lv' := [(3, .int v3_34), (2, .int v2_33), (0, .ref m), (1, .int 0)]) v3_34 h d_X8_lacks_34 3 rfl e3_34.symm _ hml (by decide) rfl ?_
          refine pw_goto 4 h d_X8_lacks_37 (by decide) ?_
          refine PW.perm [2, 3, 1, 0] rfl ?_
          exact ih (i + 1) v2_33 v3_34 (by omega) (by omega) (k_up e3_34 ev) (by rw [e2_33, ea]; rfl)
        · exact absurd c_12 (by decide)
  refine PW.perm [2, 3, 1, 0] rfl ?_
  exact cut_4 14 0 v2_1 v3_3 (by omega) (by omega) e3_3 e2_1

set_option maxHeartbeats 4000000 in
set_option maxRecDepth 100000 in
theorem c_X8_lacks1 {sh : Sh} {I : IM} {L : LM} {R : RM} {m n : Nat} (hM : ModF sh R m) (hn : I m 0 = nI n) (h6 : n ≤ 6) : PMet M_X8_lacks [.ref m, .int 1] sh I L R (pRet (some (.int (missM (momI (I (m + 5)) 13) (I (m + 1)) (I (m + 4)) n))) sh I L R) := by
  refine PMet.of mf_X8_lacks (Nat.le_of_ble_eq_true rfl) ?_
  intro X h hr hml
  have hml : (xc X).maxLocals = 4 := hml
  have h : PXok X RX8 cX8_lacks 1 0 0 := h
  have hr : PXr X (some .int) "lacks" _ 0 0 := hr
  obtain ⟨f0, f1, f2, f3, f4, f5, f6, f7, f8, f9, f10, f11, f12, f13, f14, f15, f16, f17, f18, f19, f20, f21, f22, f23, f24, f25, f26, f27, g1, g2, g3, g4, g5, g6, g7, g8, g9, g10, g11, g12, g13, g14, g15, g16, g17, g18, g19, g20, g21, g22, g23, g24, g25, g26, g27⟩ := hM
  show PW X 0 [(0, .ref m), (1, .int 1)] [] sh I L R 0 0
  refine pw_iconst (x := 0) h d_X8_lacks_0 (by decide) ?_
  refine pw_nmI (fun v2_1 e2_1 => ?_)
  refine pw_istore_n (lv' := [(2, .int v2_1), (0, .ref m), (1, .int 1)]) h d_X8_lacks_1 rfl _ hml (by decide) rfl ?_
  refine pw_iconst (x := 0) h d_X8_lacks_2 (by decide) ?_
  refine pw_nmI (fun v3_3 e3_3 => ?_)
  refine pw_istore_n (lv' := [(3, .int v3_3), (2, .int v2_1), (0, .ref m), (1, .int 1)]) h d_X8_lacks_3 rfl _ hml (by decide) rfl ?_
  have cut_4 : ∀ (N i : Nat) (a v : Int32), 13 < i + N → i ≤ 13 → v = nI i → a = momI (I (m + 5)) i → PW X 4 [(0, .ref m), (1, .int 1), (2, .int a), (3, .int v)] [] sh I L R 0 0 := by
    intro N
    induction N with
    | zero => intros; omega
    | succ N ih =>
      intro i a v hN hi ev ea
      refine pw_iload_n h 3 d_X8_lacks_4 rfl ?_
      refine pw_bipush (x := 13) h d_X8_lacks_5 (by decide) ?_
      refine pw_icmp_ge 40 h d_X8_lacks_7 (by decide) (fun c_7 => ?_) (fun c_7 => ?_)
      · skip
        have hge := k_ge ev (n := 13) rfl (by omega) (by omega) c_7
        have e : i = 13 := by omega
        subst e
        refine pw_iconst (x := 0) h d_X8_lacks_40 (by decide) ?_
        refine pw_nmI (fun v3_41 e3_41 => ?_)
        refine pw_istore_n (lv' := [(3, .int v3_41), (0, .ref m), (1, .int 1), (2, .int a)]) h d_X8_lacks_41 rfl _ hml (by decide) rfl ?_
        have cut_42 : ∀ (N i : Nat) (a v : Int32), n < i + N → i ≤ n → v = nI i → a = missM (momI (I (m + 5)) 13) (I (m + 1)) (I (m + 4)) i → PW X 42 [(0, .ref m), (1, .int 1), (2, .int a), (3, .int v)] [] sh I L R 0 0 := by
          intro N
          induction N with
          | zero => intros; omega
          | succ N ih =>
            intro i a v hN hi ev ea
            refine pw_iload_n h 3 d_X8_lacks_42 rfl ?_
            refine pw_aload_n h 0 d_X8_lacks_43 rfl ?_
            refine pw_getI 8 h d_X8_lacks_44 fd_RX8_109 (by assumption) rfl ?_
            refine pw_icmp_ge 85 h d_X8_lacks_47 (by decide) (fun c_47 => ?_) (fun c_47 => ?_)
            · skip
              have hge := k_ge ev (n := n) hn (by omega) (by omega) c_47
              have e : i = n := by omega
              subst e
              refine pw_iload_n h 2 d_X8_lacks_85 rfl ?_
              refine pw_iret h hr d_X8_lacks_86 rfl (by decide) (by decide) ?_
              exact ⟨by rw [ea], rfl, rfl, rfl, rfl⟩
            · skip
              have hlt := k_lt ev (n := n) hn (by omega) (by omega) c_47
              have hx := k_ix ev (Nat.lt_of_lt_of_le hlt (show n ≤ 6 by omega)) (by decide)
              refine pw_iload_n h 2 d_X8_lacks_50 rfl ?_
              refine pw_iload_n h 1 d_X8_lacks_51 rfl ?_
              refine pw_if_eq 71 h d_X8_lacks_52 (by decide) (fun c_52 => ?_) (fun c_52 => ?_)
              · exact absurd c_52 (by decide)
              · skip
                refine pw_aload_n h 0 d_X8_lacks_55 rfl ?_
                refine pw_getR (j := (m + 4)) 8 h d_X8_lacks_56 fd_RX8_19 (by assumption) rfl (by assumption) ?_
                refine pw_iload_n h 3 d_X8_lacks_59 rfl ?_
                refine pw_iald h d_X8_lacks_60 (by assumption) (by assumption) ?_
                refine pw_aload_n h 0 d_X8_lacks_61 rfl ?_
                refine pw_getR (j := (m + 1)) 8 h d_X8_lacks_62 fd_RX8_7 (by assumption) rfl (by assumption) ?_
                refine pw_iload_n h 3 d_X8_lacks_65 rfl ?_
                refine pw_iald h d_X8_lacks_66 (by assumption) (by assumption) ?_
                refine pw_imul h d_X8_lacks_67 ?_
                refine pw_goto 77 h d_X8_lacks_68 (by decide) ?_
                refine pw_isub h d_X8_lacks_77 ?_
                refine pw_nmI (fun v2_78 e2_78 => ?_)
                refine pw_istore_n (lv' := [(2, .int v2_78), (0, .ref m), (1, .int 1), (3, .int v)]) h d_X8_lacks_78 rfl _ hml (by decide) rfl ?_
                obtain ⟨v3_79, e3_79⟩ : ∃ z : Int32, z = v + (1) := ⟨_, rfl⟩
                refine pw_iinc (lv' := [(3, .int v3_79), (2, .int v2_78), (0, .ref m), (1, .int 1)]) v3_79 h d_X8_lacks_79 3 rfl e3_79.symm _ hml (by decide) rfl ?_
                refine pw_goto 42 h d_X8_lacks_82 (by decide) ?_
                refine PW.perm [2, 3, 1, 0] rfl ?_
                exact ih (i + 1) v2_78 v3_79 (by omega) (by omega) (k_up e3_79 ev) (by rw [e2_78, ea, Int32.mul_comm]; rfl)
        refine PW.perm [1, 2, 3, 0] rfl ?_
        exact cut_42 (n + 1) 0 a v3_41 (by omega) (by omega) e3_41 ea
      · skip
        have hlt := k_lt ev (n := 13) rfl (by omega) (by omega) c_7
        have hx := k_ix ev (Nat.lt_of_lt_of_le hlt (show 13 ≤ 13 by omega)) (by decide)
        refine pw_iload_n h 2 d_X8_lacks_10 rfl ?_
        refine pw_iload_n h 1 d_X8_lacks_11 rfl ?_
        refine pw_if_eq 26 h d_X8_lacks_12 (by decide) (fun c_12 => ?_) (fun c_12 => ?_)
        · exact absurd c_12 (by decide)
        · skip
          refine pw_aload_n h 0 d_X8_lacks_15 rfl ?_
          refine pw_getR (j := (m + 5)) 8 h d_X8_lacks_16 fd_RX8_22 (by assumption) rfl (by assumption) ?_
          refine pw_iload_n h 3 d_X8_lacks_19 rfl ?_
          refine pw_iald h d_X8_lacks_20 (by assumption) (by assumption) ?_
          refine pw_iload_n h 3 d_X8_lacks_21 rfl ?_
          refine pw_imul h d_X8_lacks_22 ?_
          refine pw_goto 32 h d_X8_lacks_23 (by decide) ?_
          refine pw_iadd h d_X8_lacks_32 ?_
          refine pw_nmI (fun v2_33 e2_33 => ?_)
          refine pw_istore_n (lv' := [(2, .int v2_33), (0, .ref m), (1, .int 1), (3, .int v)]) h d_X8_lacks_33 rfl _ hml (by decide) rfl ?_
          obtain ⟨v3_34, e3_34⟩ : ∃ z : Int32, z = v + (1) := ⟨_, rfl⟩
          refine pw_iinc (lv' := [(3, .int v3_34), (2, .int v2_33), (0, .ref m), (1, .int 1)]) v3_34 h d_X8_lacks_34 3 rfl e3_34.symm _ hml (by decide) rfl ?_
          refine pw_goto 4 h d_X8_lacks_37 (by decide) ?_
          refine PW.perm [2, 3, 1, 0] rfl ?_
          exact ih (i + 1) v2_33 v3_34 (by omega) (by omega) (k_up e3_34 ev) (by rw [e2_33, ea, ev, Int32.mul_comm]; rfl)
  refine PW.perm [2, 3, 1, 0] rfl ?_
  exact cut_4 14 0 v2_1 v3_3 (by omega) (by omega) e3_3 e2_1

set_option maxHeartbeats 4000000 in
set_option maxRecDepth 100000 in
theorem c_X8_isWrong {sh : Sh} {I : IM} {L : LM} {R : RM} {m n : Nat} (hM : ModF sh R m) (hn : I m 0 = nI n) (h6 : n ≤ 6) {i : Nat} {v : Int32} (ev : v = nI i) (hi : i < 6) : PMet M_X8_isWrong [.ref m, .int v] sh I L R (pRet (some (.int (bI (wrongB (missI (sumI (I (m + 5)) 13) (I (m + 4)) n) (missM (momI (I (m + 5)) 13) (I (m + 1)) (I (m + 4)) n) (I (m + 1) i))))) sh I L R) := by
  refine PMet.of mf_X8_isWrong (Nat.le_of_ble_eq_true rfl) ?_
  intro X h hr hml
  have hml : (xc X).maxLocals = 3 := hml
  have h : PXok X RX8 cX8_isWrong 2 0 0 := h
  have hr : PXr X (some .boolean) "isWrong" _ 0 0 := hr
  have hM0 := hM
  obtain ⟨f0, f1, f2, f3, f4, f5, f6, f7, f8, f9, f10, f11, f12, f13, f14, f15, f16, f17, f18, f19, f20, f21, f22, f23, f24, f25, f26, f27, g1, g2, g3, g4, g5, g6, g7, g8, g9, g10, g11, g12, g13, g14, g15, g16, g17, g18, g19, g20, g21, g22, g23, g24, g25, g26, g27⟩ := hM
  have hx := k_ix ev hi (by decide)
  show PW X 0 [(0, .ref m), (1, .int v)] [] sh I L R 0 0
  refine pw_aload_n h 0 d_X8_isWrong_0 rfl ?_
  refine pw_iconst (x := 0) h d_X8_isWrong_1 (by decide) ?_
  refine pw_callV (As := [.int _]) h d_X8_isWrong_2 mf_X8_lacks mi_X8_lacks ml_RX8_337 ⟨by decide, by decide, by decide⟩ (by assumption) rfl rfl (Nat.le_of_ble_eq_true rfl) trivial (c_X8_lacks0 hM0 hn h6) ?_
  refine PKk.ret ?_
  refine pw_nmI (fun v2_5 e2_5 => ?_)
  refine pw_istore_n (lv' := [(2, .int v2_5), (0, .ref m), (1, .int v)]) h d_X8_isWrong_5 rfl _ hml (by decide) rfl ?_
  refine pw_iload_n h 0 d_X8_isWrong_6 rfl ?_
  refine pw_if_eq 30 h d_X8_isWrong_7 (by decide) (fun c_7 => ?_) (fun c_7 => ?_)
  · skip
    refine pw_iconst (x := 0) h d_X8_isWrong_30 (by decide) ?_
    refine pw_iret h hr d_X8_isWrong_31 rfl (by decide) (by decide) ?_
    first | exact ⟨congrArg (fun z => some (Value.int z)) (bI_t (decide_eq_true ⟨by rw [← e2_5]; assumption, by rw [← e2_5]; exact Eq.symm (by assumption)⟩)), rfl, rfl, rfl, rfl⟩ | exact ⟨congrArg (fun z => some (Value.int z)) (bI_f (decide_eq_false (by rw [← e2_5]; exact fun q => by first | exact q.1 (by assumption) | exact absurd q.2.symm (by assumption)))), rfl, rfl, rfl, rfl⟩
  · skip
    refine pw_aload_n h 1 d_X8_isWrong_10 rfl ?_
    refine pw_iconst (x := 1) h d_X8_isWrong_11 (by decide) ?_
    refine pw_callV (As := [.int _]) h d_X8_isWrong_12 mf_X8_lacks mi_X8_lacks ml_RX8_337 ⟨by decide, by decide, by decide⟩ (by assumption) rfl rfl (Nat.le_of_ble_eq_true rfl) trivial (c_X8_lacks1 hM0 hn h6) ?_
    refine PKk.ret ?_
    refine pw_iload_n h 0 d_X8_isWrong_15 rfl ?_
    refine pw_aload_n h 1 d_X8_isWrong_16 rfl ?_
    refine pw_getR (j := (m + 1)) 8 h d_X8_isWrong_17 fd_RX8_7 (by assumption) rfl (by assumption) ?_
    refine pw_iload_n h 2 d_X8_isWrong_20 rfl ?_
    refine pw_iald h d_X8_isWrong_21 (by assumption) (by assumption) ?_
    refine pw_imul h d_X8_isWrong_22 ?_
    refine pw_icmp_ne 30 h d_X8_isWrong_23 (by decide) (fun c_23 => ?_) (fun c_23 => ?_)
    · skip
      refine pw_iconst (x := 0) h d_X8_isWrong_30 (by decide) ?_
      refine pw_iret h hr d_X8_isWrong_31 rfl (by decide) (by decide) ?_
      first | exact ⟨congrArg (fun z => some (Value.int z)) (bI_t (decide_eq_true ⟨by rw [← e2_5]; assumption, by rw [← e2_5]; exact Eq.symm (by assumption)⟩)), rfl, rfl, rfl, rfl⟩ | exact ⟨congrArg (fun z => some (Value.int z)) (bI_f (decide_eq_false (by rw [← e2_5]; exact fun q => by first | exact q.1 (by assumption) | exact absurd q.2.symm (by assumption)))), rfl, rfl, rfl, rfl⟩
    · skip
      refine pw_iconst (x := 1) h d_X8_isWrong_26 (by decide) ?_
      refine pw_goto 31 h d_X8_isWrong_27 (by decide) ?_
      refine pw_iret h hr d_X8_isWrong_31 rfl (by decide) (by decide) ?_
      first | exact ⟨congrArg (fun z => some (Value.int z)) (bI_t (decide_eq_true ⟨by rw [← e2_5]; assumption, by rw [← e2_5]; exact Eq.symm (by assumption)⟩)), rfl, rfl, rfl, rfl⟩ | exact ⟨congrArg (fun z => some (Value.int z)) (bI_f (decide_eq_false (by rw [← e2_5]; exact fun q => by first | exact q.1 (by assumption) | exact absurd q.2.symm (by assumption)))), rfl, rfl, rfl, rfl⟩
