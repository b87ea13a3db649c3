set_option maxHeartbeats 4000000 in
set_option maxRecDepth 100000 in
theorem c_X4_steps {sh : Sh} {I : IM} {L : LM} {R : RM} {b t a T : Nat} (hD : ReadF sh R b t) (ha : I b 3 = nI a) (hT : I b 2 = nI T) (hT2 : T ≤ 120) (haT : a ≤ T) (c : Int32) : PMet M_X4_steps [.ref b, .int c] sh I L R (pIf (decide (nxt (I t) (skB (I t) a T) T = c)) (pRet (some (.int 1)) sh (u2 I b 3 (nI (skB (I t) a T + 1))) L R) (pRet (some (.int 0)) sh (u2 I b 3 (nI (skB (I t) a T))) L R)) := by
  refine PMet.of mf_X4_steps (Nat.le_of_ble_eq_true rfl) ?_
  intro X h hr hml
  have hml : (xc X).maxLocals = 2 := hml
  have h : PXok X RX4 cX4_steps 3 0 0 := h
  have hr : PXr X (some .boolean) "steps" _ 0 0 := hr
  have hD0 := hD
  obtain ⟨q0, q1, hL, q3, q4, qn⟩ := hD
  have hsk := skB_le (f := I t) haT
  show PW X 0 [(0, .ref b), (1, .int c)] [] sh I L R 0 0
  refine pw_aload_n h 0 d_X4_steps_0 rfl ?_
  refine pw_callV (As := []) h d_X4_steps_1 mf_X4_skipBlanks mi_X4_skipBlanks ml_RX4_45 ⟨by decide, by decide, by decide⟩ (by assumption) rfl rfl (Nat.le_of_ble_eq_true rfl) trivial (c_X4_skipBlanks hD0 ha hT hT2 haT) ?_
  refine PKk.ret ?_
  refine pw_aload_n h 0 d_X4_steps_4 rfl ?_
  refine pw_callV (As := []) h d_X4_steps_5 mf_X4_next mi_X4_next ml_RX4_48 ⟨by decide, by decide, by decide⟩ (by assumption) rfl rfl (Nat.le_of_ble_eq_true rfl) trivial (c_X4_next (a := skB (I t) a T) (T := T) hD0 u2_s (by rw [u2_n2 (by decide)]; exact hT) hT2 hsk.2) ?_
  refine PKk.ret ?_
  refine pw_eqI (y := nxt (I t) (skB (I t) a T) T) (by unfold nxt; rw [u2_n1 qn]) ?_
  refine pw_iload_n h 1 d_X4_steps_8 rfl ?_
  refine pw_icmp_eq 14 h d_X4_steps_9 (by decide) (fun c_9 => ?_) (fun c_9 => ?_)
  · skip
    refine pw_aload_n h 0 d_X4_steps_14 rfl ?_
    refine pw_dupR h d_X4_steps_15 ?_
    refine pw_getI 4 h d_X4_steps_16 fd_RX4_26 (by assumption) rfl ?_
    refine pw_iconst (x := 1) h d_X4_steps_19 (by decide) ?_
    refine pw_iadd h d_X4_steps_20 ?_
    refine pw_putI 4 h d_X4_steps_21 fd_RX4_26 (by assumption) rfl rfl rfl rfl ?_
    refine pw_iconst (x := 1) h d_X4_steps_24 (by decide) ?_
    refine pw_iret h hr d_X4_steps_25 rfl (by decide) (by decide) ?_
    rw [u2_s, u2_u2, nI_1]
    exact pIf_t (decide_eq_true c_9) pRet_self
  · skip
    refine pw_iconst (x := 0) h d_X4_steps_12 (by decide) ?_
    refine pw_iret h hr d_X4_steps_13 rfl (by decide) (by decide) ?_
    exact pIf_f (decide_eq_false c_9) pRet_self

set_option maxHeartbeats 4000000 in
set_option maxRecDepth 100000 in
theorem c_X4_readNumber {sh : Sh} {I : IM} {L : LM} {R : RM} {b t a T : Nat} (hD : ReadF sh R b t) (ha : I b 3 = nI a) (hT : I b 2 = nI T) (hT2 : T ≤ 120) (haT : a ≤ T) : PMet M_X4_readNumber [.ref b] sh I L R (pIf (isW (nxt (I t) (skB (I t) a T) T) 48 57) (pRet (some (.int (numB (I t) T (skB (I t) a T) 0).2)) sh (u2 (u2 I b 3 (nI (numB (I t) T (skB (I t) a T) 0).1)) b 4 (nI (skB (I t) a T))) L R) (pRet (some (.int (-1))) sh (u2 (u2 (u2 I b 3 (nI (skB (I t) a T))) b 4 (nI (skB (I t) a T))) b 5 (nI (skB (I t) a T))) L R)) := by
  refine PMet.of mf_X4_readNumber (Nat.le_of_ble_eq_true rfl) ?_
  intro X h hr hml
  have hml : (xc X).maxLocals = 2 := hml
  have h : PXok X RX4 cX4_readNumber 3 0 0 := h
  have hr : PXr X (some .int) "readNumber" _ 0 0 := hr
  have hD0 := hD
  obtain ⟨q0, q1, hL, q3, q4, qn⟩ := hD
  have hsk := skB_le (f := I t) haT
  show PW X 0 [(0, .ref b)] [] sh I L R 0 0
  refine pw_aload_n h 0 d_X4_readNumber_0 rfl ?_
  refine pw_callV (As := []) h d_X4_readNumber_1 mf_X4_skipBlanks mi_X4_skipBlanks ml_RX4_45 ⟨by decide, by decide, by decide⟩ (by assumption) rfl rfl (Nat.le_of_ble_eq_true rfl) trivial (c_X4_skipBlanks hD0 ha hT hT2 haT) ?_
  refine PKk.ret ?_
  refine pw_aload_n h 0 d_X4_readNumber_4 rfl ?_
  refine pw_aload_n h 0 d_X4_readNumber_5 rfl ?_
  refine pw_getI 4 h d_X4_readNumber_6 fd_RX4_26 (by assumption) rfl ?_
  refine pw_putI 4 h d_X4_readNumber_9 fd_RX4_29 (by assumption) rfl rfl rfl rfl ?_
  rw [u2_s]
  refine pw_aload_n h 0 d_X4_readNumber_12 rfl ?_
  refine pw_callV (As := []) h d_X4_readNumber_13 mf_X4_isDigit mi_X4_isDigit ml_RX4_87 ⟨by decide, by decide, by decide⟩ (by assumption) rfl rfl (Nat.le_of_ble_eq_true rfl) trivial (c_X4_isDigit (a := skB (I t) a T) (T := T) hD0 (by rw [u2_n2 (by decide), u2_s]) (by rw [u2_n2 (by decide), u2_n2 (by decide)]; exact hT) hT2 hsk.2) ?_
  refine PKk.ret ?_
  refine pw_eqI (y := bI (isW (nxt (I t) (skB (I t) a T) T) 48 57)) (by unfold nxt; rw [u2_n1 qn, u2_n1 qn]) ?_
  refine pw_if_ne 30 h d_X4_readNumber_16 (by decide) (fun c_16 => ?_) (fun c_16 => ?_)
  · skip
    rw [bI_1, Bool.not_eq_false] at c_16
    refine pw_iconst (x := 0) h d_X4_readNumber_30 (by decide) ?_
    refine pw_nmI (fun v1_31 e1_31 => ?_)
    refine pw_istore_n (lv' := [(1, .int v1_31), (0, .ref b)]) h d_X4_readNumber_31 rfl _ hml (by decide) rfl ?_
    have cut_32 : ∀ (N c : Nat) (v : Int32), T < c + N → c ≤ T → numB (I t) T c v = numB (I t) T (skB (I t) a T) 0 → PW X 32 [(0, .ref b), (1, .int v)] [] sh (u2 (u2 I b 3 (nI c)) b 4 (nI (skB (I t) a T))) L R 0 0 := by
      intro N
      induction N with
      | zero => intros; omega
      | succ N ih =>
        intro c v hN hc hq
        refine pw_aload_n h 0 d_X4_readNumber_32 rfl ?_
        refine pw_getI 4 h d_X4_readNumber_33 fd_RX4_26 (by assumption) rfl ?_
        refine pw_aload_n h 0 d_X4_readNumber_36 rfl ?_
        refine pw_getI 4 h d_X4_readNumber_37 fd_RX4_22 (by assumption) rfl ?_
        refine pw_icmp_ge 82 h d_X4_readNumber_40 (by decide) (fun c_40 => ?_) (fun c_40 => ?_)
        · skip
          have hs : numB (I t) T c v = (c, v) := numB_st (fun q => absurd (k_ge (i := c) (n := T) (by rw [u2_n2 (by decide), u2_s]) (by rw [u2_n2 (by decide), u2_n2 (by decide)]; exact hT) (by omega) (by omega) c_40) (by omega))
          refine pw_iload_n h 1 d_X4_readNumber_82 rfl ?_
          refine pw_iret h hr d_X4_readNumber_83 rfl (by decide) (by decide) ?_
          rw [← hq, hs]
          exact pIf_t c_16 pRet_self
        · skip
          have hlt : c < T := k_lt (i := c) (n := T) (by rw [u2_n2 (by decide), u2_s]) (by rw [u2_n2 (by decide), u2_n2 (by decide)]; exact hT) (by omega) (by omega) c_40
          refine pw_aload_n h 0 d_X4_readNumber_43 rfl ?_
          refine pw_callV (As := []) h d_X4_readNumber_44 mf_X4_isDigit mi_X4_isDigit ml_RX4_87 ⟨by decide, by decide, by decide⟩ (by assumption) rfl rfl (Nat.le_of_ble_eq_true rfl) trivial (c_X4_isDigit (a := c) (T := T) hD0 (by rw [u2_n2 (by decide), u2_s]) (by rw [u2_n2 (by decide), u2_n2 (by decide)]; exact hT) hT2 hc) ?_
          refine PKk.ret ?_
          refine pw_eqI (y := bI (isW (nxt (I t) c T) 48 57)) (by unfold nxt; rw [u2_n1 qn, u2_n1 qn]) ?_
          refine pw_if_eq 82 h d_X4_readNumber_47 (by decide) (fun c_47 => ?_) (fun c_47 => ?_)
          · skip
            rw [bI_1] at c_47
            have hs : numB (I t) T c v = (c, v) := numB_st (fun q => by have e : isW (nxt (I t) c T) 48 57 = false := c_47; unfold nxt at e; rw [if_pos hlt, q.2] at e; cases e)
            refine pw_iload_n h 1 d_X4_readNumber_82 rfl ?_
            refine pw_iret h hr d_X4_readNumber_83 rfl (by decide) (by decide) ?_
            rw [← hq, hs]
            exact pIf_t c_16 pRet_self
          · skip
            rw [bI_1, Bool.not_eq_false] at c_47
            have hdg : isW (I t c) 48 57 = true := by have e : isW (nxt (I t) c T) 48 57 = true := c_47; unfold nxt at e; rw [if_pos hlt] at e; exact e
            refine pw_sipush (x := 1000) h d_X4_readNumber_50 (by decide) ?_
            refine pw_bipush (x := 10) h d_X4_readNumber_53 (by decide) ?_
            refine pw_iload_n h 1 d_X4_readNumber_55 rfl ?_
            refine pw_imul h d_X4_readNumber_56 ?_
            refine pw_aload_n h 0 d_X4_readNumber_57 rfl ?_
            refine pw_callV (As := []) h d_X4_readNumber_58 mf_X4_next mi_X4_next ml_RX4_48 ⟨by decide, by decide, by decide⟩ (by assumption) rfl rfl (Nat.le_of_ble_eq_true rfl) trivial (c_X4_next (a := c) (T := T) hD0 (by rw [u2_n2 (by decide), u2_s]) (by rw [u2_n2 (by decide), u2_n2 (by decide)]; exact hT) hT2 hc) ?_
            refine PKk.ret ?_
            refine pw_eqI (y := I t c) (by unfold nxt; rw [if_pos hlt, u2_n1 qn, u2_n1 qn]) ?_
            refine pw_iadd h d_X4_readNumber_61 ?_
            refine pw_bipush (x := 48) h d_X4_readNumber_62 (by decide) ?_
            refine pw_isub h d_X4_readNumber_64 ?_
            refine pw_mmin h d_X4_readNumber_65 ml_RX4_90 (by decide) (Nat.le_of_ble_eq_true rfl) (by decide) (by decide) ?_
            refine pw_nmI (fun v1_68 e1_68 => ?_)
            refine pw_istore_n (lv' := [(1, .int v1_68), (0, .ref b)]) h d_X4_readNumber_68 rfl _ hml (by decide) rfl ?_
            refine pw_aload_n h 1 d_X4_readNumber_69 rfl ?_
            refine pw_dupR h d_X4_readNumber_70 ?_
            refine pw_getI 4 h d_X4_readNumber_71 fd_RX4_26 (by assumption) rfl ?_
            refine pw_iconst (x := 1) h d_X4_readNumber_74 (by decide) ?_
            refine pw_iadd h d_X4_readNumber_75 ?_
            refine pw_putI 4 h d_X4_readNumber_76 fd_RX4_26 (by assumption) rfl rfl rfl rfl ?_
            refine pw_goto 32 h d_X4_readNumber_79 (by decide) ?_
            refine PW.perm [1, 0] rfl ?_
            refine pw_mem ?_ rfl rfl (ih (c + 1) v1_68 (by omega) (by omega) (by rw [← hq, numB_go hlt hdg, e1_68]; rfl))
            rw [u2_n2 (show 3 ≠ 4 by decide), u2_s, nI_1]
            exact u2_mid
    refine PW.perm [1, 0] rfl ?_
    exact cut_32 (T + 1) (skB (I t) a T) v1_31 (by omega) hsk.2 (by rw [e1_31])
  · skip
    rw [bI_1] at c_16
    refine pw_aload_n h 0 d_X4_readNumber_19 rfl ?_
    refine pw_aload_n h 0 d_X4_readNumber_20 rfl ?_
    refine pw_getI 4 h d_X4_readNumber_21 fd_RX4_26 (by assumption) rfl ?_
    refine pw_callV (As := [.int _]) h d_X4_readNumber_24 mf_X4_fail mi_X4_fail ml_RX4_58 ⟨by decide, by decide, by decide⟩ (by assumption) rfl rfl (Nat.le_of_ble_eq_true rfl) trivial (c_X4_fail q0 _) ?_
    refine PKk.ret ?_
    refine pw_popI h d_X4_readNumber_27 ?_
    refine pw_iconst (x := (-1)) h d_X4_readNumber_28 (by decide) ?_
    refine pw_iret h hr d_X4_readNumber_29 rfl (by decide) (by decide) ?_
    rw [u2_n2 (show 3 ≠ 4 by decide), u2_s]
    exact pIf_f c_16 pRet_self
