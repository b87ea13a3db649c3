set_option maxHeartbeats 4000000 in
set_option maxRecDepth 100000 in
theorem c_X4_next {sh : Sh} {I : IM} {L : LM} {R : RM} {b t a T : Nat} (hD : ReadF sh R b t) (ha : I b 3 = nI a) (hT : I b 2 = nI T) (hT2 : T ≤ 120) (haT : a ≤ T) : PMet M_X4_next [.ref b] sh I L R (pRet (some (.int (nxt (I t) a T))) sh I L R) := by
  refine PMet.of mf_X4_next (Nat.le_of_ble_eq_true rfl) ?_
  intro X h hr hml
  have hml : (xc X).maxLocals = 1 := hml
  have h : PXok X RX4 cX4_next 1 0 0 := h
  have hr : PXr X (some .int) "next" _ 0 0 := hr
  have hD0 := hD
  obtain ⟨q0, q1, hL, q3, q4, qn⟩ := hD
  show PW X 0 [(0, .ref b)] [] sh I L R 0 0
  refine pw_aload_n h 0 d_X4_next_0 rfl ?_
  refine pw_getR (j := t) 4 h d_X4_next_1 fd_RX4_18 (by assumption) rfl (by assumption) ?_
  refine pw_ifnull h d_X4_next_4 ?_
  refine pw_aload_n h 0 d_X4_next_7 rfl ?_
  refine pw_getI 4 h d_X4_next_8 fd_RX4_26 (by assumption) rfl ?_
  refine pw_aload_n h 0 d_X4_next_11 rfl ?_
  refine pw_getI 4 h d_X4_next_12 fd_RX4_22 (by assumption) rfl ?_
  refine pw_icmp_ge 30 h d_X4_next_15 (by decide) (fun c_15 => ?_) (fun c_15 => ?_)
  · skip
    have hge : T ≤ a := k_ge ha hT (by omega) (by omega) c_15
    refine pw_iconst (x := (-1)) h d_X4_next_30 (by decide) ?_
    refine pw_iret h hr d_X4_next_31 rfl (by decide) (by decide) ?_
    unfold nxt
    first | exact ⟨by rw [if_pos hlt], rfl, rfl, rfl, rfl⟩ | exact ⟨by rw [if_neg (by omega)], rfl, rfl, rfl, rfl⟩
  · skip
    have hlt : a < T := k_lt ha hT (by omega) (by omega) c_15
    have hx : px_ix (I b 3) 120 a := k_ix ha (by omega) (by decide)
    refine pw_aload_n h 0 d_X4_next_18 rfl ?_
    refine pw_getR (j := t) 4 h d_X4_next_19 fd_RX4_18 (by assumption) rfl (by assumption) ?_
    refine pw_aload_n h 0 d_X4_next_22 rfl ?_
    refine pw_getI 4 h d_X4_next_23 fd_RX4_26 (by assumption) rfl ?_
    refine pw_bald h d_X4_next_26 (by assumption) (by assumption) ?_
    refine pw_goto 31 h d_X4_next_27 (by decide) ?_
    refine pw_iret h hr d_X4_next_31 rfl (by decide) (by decide) ?_
    unfold nxt
    first | exact ⟨by rw [if_pos hlt], rfl, rfl, rfl, rfl⟩ | exact ⟨by rw [if_neg (by omega)], rfl, rfl, rfl, rfl⟩

set_option maxHeartbeats 4000000 in
set_option maxRecDepth 100000 in
theorem c_X4_fail {sh : Sh} {I : IM} {L : LM} {R : RM} {b : Nat} (q0 : sh[b]? = some (.inl 4)) (p : Int32) : PMet M_X4_fail [.ref b, .int p] sh I L R (pRet (some (.int 0)) sh (u2 I b 5 p) L R) := by
  refine PMet.of mf_X4_fail (Nat.le_of_ble_eq_true rfl) ?_
  intro X h hr hml
  have hml : (xc X).maxLocals = 2 := hml
  have h : PXok X RX4 cX4_fail 1 0 0 := h
  have hr : PXr X (some .boolean) "fail" _ 0 0 := hr
  show PW X 0 [(0, .ref b), (1, .int p)] [] sh I L R 0 0
  refine pw_aload_n h 0 d_X4_fail_0 rfl ?_
  refine pw_iload_n h 1 d_X4_fail_1 rfl ?_
  refine pw_putI 4 h d_X4_fail_2 fd_RX4_32 (by assumption) rfl rfl rfl rfl ?_
  refine pw_iconst (x := 0) h d_X4_fail_5 (by decide) ?_
  refine pw_iret h hr d_X4_fail_6 rfl (by decide) (by decide) ?_
  exact ⟨rfl, rfl, rfl, rfl, rfl⟩

set_option maxHeartbeats 4000000 in
set_option maxRecDepth 100000 in
theorem c_X4_isDigit {sh : Sh} {I : IM} {L : LM} {R : RM} {b t a T : Nat} (hD : ReadF sh R b t) (ha : I b 3 = nI a) (hT : I b 2 = nI T) (hT2 : T ≤ 120) (haT : a ≤ T) : PMet M_X4_isDigit [.ref b] sh I L R (pRet (some (.int (bI (isW (nxt (I t) a T) 48 57)))) sh I L R) := by
  refine PMet.of mf_X4_isDigit (Nat.le_of_ble_eq_true rfl) ?_
  intro X h hr hml
  have hml : (xc X).maxLocals = 2 := hml
  have h : PXok X RX4 cX4_isDigit 2 0 0 := h
  have hr : PXr X (some .boolean) "isDigit" _ 0 0 := hr
  have hD0 := hD
  obtain ⟨q0, q1, hL, q3, q4, qn⟩ := hD
  show PW X 0 [(0, .ref b)] [] sh I L R 0 0
  refine pw_aload_n h 0 d_X4_isDigit_0 rfl ?_
  refine pw_callV (As := []) h d_X4_isDigit_1 mf_X4_next mi_X4_next ml_RX4_48 ⟨by decide, by decide, by decide⟩ (by assumption) rfl rfl (Nat.le_of_ble_eq_true rfl) trivial (c_X4_next hD0 ha hT hT2 haT) ?_
  refine PKk.ret ?_
  refine pw_nmI (fun v1_4 e1_4 => ?_)
  refine pw_istore_n (lv' := [(1, .int v1_4), (0, .ref b)]) h d_X4_isDigit_4 rfl _ hml (by decide) rfl ?_
  refine pw_iload_n h 0 d_X4_isDigit_5 rfl ?_
  refine pw_bipush (x := 48) h d_X4_isDigit_6 (by decide) ?_
  refine pw_icmp_lt 21 h d_X4_isDigit_8 (by decide) (fun c_8 => ?_) (fun c_8 => ?_)
  · skip
    refine pw_iconst (x := 0) h d_X4_isDigit_21 (by decide) ?_
    refine pw_iret h hr d_X4_isDigit_22 rfl (by decide) (by decide) ?_
    subst e1_4
    simp only [Int32.lt_iff_toInt_lt, Int32.le_iff_toInt_le] at *
    first | exact ⟨congrArg (fun z => some (Value.int z)) (bI_t (by exact isW_t (by omega) (by omega))), rfl, rfl, rfl, rfl⟩ | exact ⟨congrArg (fun z => some (Value.int z)) (bI_f (by exact isW_f (by omega))), rfl, rfl, rfl, rfl⟩
  · skip
    refine pw_iload_n h 0 d_X4_isDigit_11 rfl ?_
    refine pw_bipush (x := 57) h d_X4_isDigit_12 (by decide) ?_
    refine pw_icmp_gt 21 h d_X4_isDigit_14 (by decide) (fun c_14 => ?_) (fun c_14 => ?_)
    · skip
      refine pw_iconst (x := 0) h d_X4_isDigit_21 (by decide) ?_
      refine pw_iret h hr d_X4_isDigit_22 rfl (by decide) (by decide) ?_
      subst e1_4
      simp only [Int32.lt_iff_toInt_lt, Int32.le_iff_toInt_le] at *
      first | exact ⟨congrArg (fun z => some (Value.int z)) (bI_t (by exact isW_t (by omega) (by omega))), rfl, rfl, rfl, rfl⟩ | exact ⟨congrArg (fun z => some (Value.int z)) (bI_f (by exact isW_f (by omega))), rfl, rfl, rfl, rfl⟩
    · skip
      refine pw_iconst (x := 1) h d_X4_isDigit_17 (by decide) ?_
      refine pw_goto 22 h d_X4_isDigit_18 (by decide) ?_
      refine pw_iret h hr d_X4_isDigit_22 rfl (by decide) (by decide) ?_
      subst e1_4
      simp only [Int32.lt_iff_toInt_lt, Int32.le_iff_toInt_le] at *
      first | exact ⟨congrArg (fun z => some (Value.int z)) (bI_t (by exact isW_t (by omega) (by omega))), rfl, rfl, rfl, rfl⟩ | exact ⟨congrArg (fun z => some (Value.int z)) (bI_f (by exact isW_f (by omega))), rfl, rfl, rfl, rfl⟩

set_option maxHeartbeats 4000000 in
set_option maxRecDepth 100000 in
theorem c_X4_skipBlanks {sh : Sh} {I : IM} {L : LM} {R : RM} {b t a T : Nat} (hD : ReadF sh R b t) (ha : I b 3 = nI a) (hT : I b 2 = nI T) (hT2 : T ≤ 120) (haT : a ≤ T) : PMet M_X4_skipBlanks [.ref b] sh I L R (pRet none sh (u2 I b 3 (nI (skB (I t) a T))) L R) := by
  refine PMet.of mf_X4_skipBlanks (Nat.le_of_ble_eq_true rfl) ?_
  intro X h hr hml
  have hml : (xc X).maxLocals = 1 := hml
  have h : PXok X RX4 cX4_skipBlanks 2 0 0 := h
  have hr : PXr X none "skipBlanks" _ 0 0 := hr
  have hD0 := hD
  obtain ⟨q0, q1, hL, q3, q4, qn⟩ := hD
  show PW X 0 [(0, .ref b)] [] sh I L R 0 0
  have cut_0 : ∀ (N c : Nat), T < c + N → c ≤ T → skB (I t) c T = skB (I t) a T → PW X 0 [(0, .ref b)] [] sh (u2 I b 3 (nI c)) L R 0 0 := by
    intro N
    induction N with
    | zero => intros; omega
    | succ N ih =>
      intro c hN hc hq
      refine pw_aload_n h 0 d_X4_skipBlanks_0 rfl ?_
      refine pw_getI 4 h d_X4_skipBlanks_1 fd_RX4_26 (by assumption) rfl ?_
      refine pw_aload_n h 0 d_X4_skipBlanks_4 rfl ?_
      refine pw_getI 4 h d_X4_skipBlanks_5 fd_RX4_22 (by assumption) rfl ?_
      refine pw_icmp_ge 33 h d_X4_skipBlanks_8 (by decide) (fun c_8 => ?_) (fun c_8 => ?_)
      · skip
        have hs : skB (I t) c T = c := skB_st (fun q => absurd (k_ge (i := c) (n := T) u2_s (by rw [u2_n2 (by decide)]; exact hT) (by omega) (by omega) c_8) (by omega))
        refine pw_vret h hr d_X4_skipBlanks_33 (by decide) (by decide) ?_
        rw [← hq, hs]
        exact pRet_self
      · skip
        have hlt : c < T := k_lt (i := c) (n := T) u2_s (by rw [u2_n2 (by decide)]; exact hT) (by omega) (by omega) c_8
        refine pw_aload_n h 0 d_X4_skipBlanks_11 rfl ?_
        refine pw_callV (As := []) h d_X4_skipBlanks_12 mf_X4_next mi_X4_next ml_RX4_48 ⟨by decide, by decide, by decide⟩ (by assumption) rfl rfl (Nat.le_of_ble_eq_true rfl) trivial (c_X4_next (a := c) (T := T) hD0 u2_s (by rw [u2_n2 (by decide)]; exact hT) hT2 hc) ?_
        refine PKk.ret ?_
        refine pw_bipush (x := 32) h d_X4_skipBlanks_15 (by decide) ?_
        refine pw_icmp_ne 33 h d_X4_skipBlanks_17 (by decide) (fun c_17 => ?_) (fun c_17 => ?_)
        · skip
          have hs : skB (I t) c T = c := skB_st (fun q => c_17 (by show nxt (u2 I b 3 (nI c) t) c T = 32; unfold nxt; rw [if_pos hlt, u2_n1 qn]; exact q.2))
          refine pw_vret h hr d_X4_skipBlanks_33 (by decide) (by decide) ?_
          rw [← hq, hs]
          exact pRet_self
        · skip
          have h32 : I t c = 32 := by have e : nxt (u2 I b 3 (nI c) t) c T = 32 := c_17; unfold nxt at e; rw [if_pos hlt, u2_n1 qn] at e; exact e
          refine pw_aload_n h 0 d_X4_skipBlanks_20 rfl ?_
          refine pw_dupR h d_X4_skipBlanks_21 ?_
          refine pw_getI 4 h d_X4_skipBlanks_22 fd_RX4_26 (by assumption) rfl ?_
          refine pw_iconst (x := 1) h d_X4_skipBlanks_25 (by decide) ?_
          refine pw_iadd h d_X4_skipBlanks_26 ?_
          refine pw_putI 4 h d_X4_skipBlanks_27 fd_RX4_26 (by assumption) rfl rfl rfl rfl ?_
          refine pw_goto 0 h d_X4_skipBlanks_30 (by decide) ?_
          refine PW.perm [0] rfl ?_
          refine pw_mem ?_ rfl rfl (ih (c + 1) (by omega) (by omega) (by rw [← hq, skB_go hlt h32]))
          rw [u2_u2, u2_s, nI_1]
  refine PW.perm [0] rfl ?_
  exact pw_mem (u2_self ha) rfl rfl (cut_0 (T + 1) a (by omega) haT rfl)
