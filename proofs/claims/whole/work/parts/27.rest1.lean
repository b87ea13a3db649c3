set_option maxHeartbeats 4000000 in
set_option maxRecDepth 100000 in
theorem c_X0_solve {sh : Sh} {I : IM} {L : LM} {R : RM} {b : Nat} (hB : BeamF sh R b) {n : Nat} (hn : I b 0 = nI n) (h7 : n ≤ 7) {pl : Nat → Nat} (hpl : ∀ k, k < n → px_ix (I (b + 1) k) 13 (pl k)) : PMet M_X0_solve [.ref b] sh I L R (pRet none sh I (solL I L b n pl) R) := by
  refine PMet.of mf_X0_solve (Nat.le_of_ble_eq_true rfl) ?_
  intro X h hr hml
  have hml : (xc X).maxLocals = 1 := hml
  have h : PXok X RX0 cX0_solve 3 0 0 := h
  have hr : PXr X none "solve" _ 0 0 := hr
  have hB0 := hB
  obtain ⟨f0, f1, f2, f3, f4, f5, f6, f7, f8, f9, f10, f11, g1, g2, g3, g9, g10, g11, g12, g13, g14, g15, g16⟩ := hB
  show PW X 0 [(0, .ref b)] [] sh I L R 0 0
  refine pw_aload_n h 0 d_X0_solve_0 rfl ?_
  refine pw_getI 0 h d_X0_solve_1 fd_RX0_9 (by assumption) rfl ?_
  refine pw_iconst (x := 2) h d_X0_solve_4 (by decide) ?_
  refine pw_icmp_ge 9 h d_X0_solve_5 (by decide) (fun c_5 => ?_) (fun c_5 => ?_)
  · skip
    have h2 : 2 ≤ n := by have := k_ge2 hn (n := 2) rfl (by omega) (by omega) (nlt_of_ge c_5); exact this
    refine pw_aload_n h 0 d_X0_solve_9 rfl ?_
    refine pw_callV (As := []) h d_X0_solve_10 mf_X0_measure mi_X0_measure ml_RX0_70 ⟨by decide, by decide, by decide⟩ (by assumption) rfl rfl (Nat.le_of_ble_eq_true rfl) trivial (c_X0_measure hB0 hn h7 h2 hpl) ?_
    refine PKk.ret ?_
    refine pw_aload_n h 0 d_X0_solve_13 rfl ?_
    refine pw_callV (As := []) h d_X0_solve_14 mf_X0_findDeterminants mi_X0_findDeterminants ml_RX0_73 ⟨by decide, by decide, by decide⟩ (by assumption) rfl rfl (Nat.le_of_ble_eq_true rfl) trivial (c_X0_findDeterminants (sp := spnL I b) hB0 hn h7 h2 (fun k hk => mesL_r hk)) ?_
    refine PKk.ret ?_
    refine pw_aload_n h 0 d_X0_solve_17 rfl ?_
    refine pw_callV (As := []) h d_X0_solve_18 mf_X0_findBends mi_X0_findBends ml_RX0_76 ⟨by decide, by decide, by decide⟩ (by assumption) rfl rfl (Nat.le_of_ble_eq_true rfl) trivial (c_X0_findBends (sp := spnL I b) hB0 hn h7 h2 (fun k hk => by rw [detL_o (by omega) (by omega)]; exact mesL_r hk)) ?_
    refine PKk.ret ?_
    refine pw_aload_n h 0 d_X0_solve_21 rfl ?_
    refine pw_callV (As := []) h d_X0_solve_22 mf_X0_findPushes mi_X0_findPushes ml_RX0_79 ⟨by decide, by decide, by decide⟩ (by assumption) rfl rfl (Nat.le_of_ble_eq_true rfl) trivial (c_X0_findPushes (sp := spnL I b) hB0 hn h7 h2 (fun k hk => by rw [r2_o (by omega) (by omega), detL_o (by omega) (by omega)]; exact mesL_r hk)) ?_
    refine PKk.ret ?_
    refine pw_vret h hr d_X0_solve_25 (by decide) (by decide) ?_
    exact ⟨rfl, rfl, rfl, by unfold solL; rw [if_pos h2]; rfl, rfl⟩
  · skip
    have h2 : ¬ 2 ≤ n := by have := k_lt2 hn (n := 2) rfl (by omega) (by omega) (lt_of_nge c_5); omega
    refine pw_vret h hr d_X0_solve_8 (by decide) (by decide) ?_
    exact ⟨rfl, rfl, rfl, by rw [show solL I L b n pl = L from if_neg h2], rfl⟩

set_option maxHeartbeats 4000000 in
set_option maxRecDepth 100000 in
theorem c_X5_start {sh : Sh} {I : IM} {L : LM} {R : RM} {r : Nat} (hQ : RestF sh R r) {w : Nat} (hw : sh[w]? = some (.inr (.int, 13))) (f : Int32) : PMet M_X5_start [.ref r, .int f, .ref w] sh I L R (pRet none sh (u2 (u2 I r 1 0) (r + 1) 0 0) (carL (u2 L (r + 1) 5 f.toInt64) (r + 1) 13 (carS (u2 (u2 I r 1 0) (r + 1) 0 0 w) 0 13) (carC (u2 (u2 I r 1 0) (r + 1) 0 0 w) 0 13) (carA (u2 (u2 I r 1 0) (r + 1) 0 0 w) 0 13 13) (carM (u2 (u2 I r 1 0) (r + 1) 0 0 w) 0 13 13)) R) := by
  refine PMet.of mf_X5_start (Nat.le_of_ble_eq_true rfl) ?_
  intro X h hr hml
  have hml : (xc X).maxLocals = 3 := hml
  have h : PXok X RX5 cX5_start 2 0 0 := h
  have hr : PXr X none "start" _ 0 0 := hr
  have hQ0 := hQ
  obtain ⟨q0, q1, hB, q13, q14, q15, p2, p3, p4⟩ := hQ
  have hB0 := hB
  obtain ⟨f0, f1, f2, f3, f4, f5, f6, f7, f8, f9, f10, f11, g1, g2, g3, g9, g10, g11, g12, g13, g14, g15, g16⟩ := hB
  show PW X 0 [(0, .ref r), (1, .int f), (2, .ref w)] [] sh I L R 0 0
  refine pw_aload_n h 0 d_X5_start_0 rfl ?_
  refine pw_iconst (x := 0) h d_X5_start_1 (by decide) ?_
  refine pw_putI 5 h d_X5_start_2 fd_RX5_18 (by assumption) rfl rfl rfl rfl ?_
  refine pw_aload_n h 0 d_X5_start_5 rfl ?_
  refine pw_getR (j := (r + 1)) 5 h d_X5_start_6 fd_RX5_12 (by assumption) rfl (by assumption) ?_
  refine pw_iload_n h 1 d_X5_start_9 rfl ?_
  refine pw_callV (As := [.int _]) h d_X5_start_10 mf_X0_start mi_X0_start ml_RX5_32 ⟨by decide, by decide, by decide⟩ (by assumption) rfl rfl (Nat.le_of_ble_eq_true rfl) trivial (c_X0_start hB0 f) ?_
  refine PKk.ret ?_
  refine pw_aload_n h 0 d_X5_start_13 rfl ?_
  refine pw_getR (j := (r + 1)) 5 h d_X5_start_14 fd_RX5_12 (by assumption) rfl (by assumption) ?_
  refine pw_aload_n h 2 d_X5_start_17 rfl ?_
  refine pw_iconst (x := 0) h d_X5_start_18 (by decide) ?_
  refine pw_bipush (x := 13) h d_X5_start_19 (by decide) ?_
  refine pw_callV (As := [.ref w, .int _, .int _]) h d_X5_start_21 mf_X0_carry mi_X0_carry ml_RX5_36 ⟨by decide, by decide, by decide⟩ (by assumption) rfl rfl (Nat.le_of_ble_eq_true rfl) trivial (c_X0_carry hB0 hw 0 13) ?_
  refine PKk.ret ?_
  refine pw_vret h hr d_X5_start_24 (by decide) (by decide) ?_
  exact ⟨rfl, rfl, rfl, rfl, rfl⟩

set_option maxHeartbeats 4000000 in
set_option maxRecDepth 100000 in
theorem c_X5_put {sh : Sh} {I : IM} {L : LM} {R : RM} {r : Nat} (hQ : RestF sh R r) {n : Nat} (hn : I r 1 = nI n) (h7 : n ≤ 7) (p v : Int32) : PMet M_X5_put [.ref r, .int p, .int v] sh I L R (pRet none sh (if n < 7 then u2 (u2 (u2 I (r + 13) n p) (r + 14) n v) r 1 (nI (n + 1)) else I) L R) := by
  refine PMet.of mf_X5_put (Nat.le_of_ble_eq_true rfl) ?_
  intro X h hr hml
  have hml : (xc X).maxLocals = 3 := hml
  have h : PXok X RX5 cX5_put 1 0 0 := h
  have hr : PXr X none "put" _ 0 0 := hr
  have hQ0 := hQ
  obtain ⟨q0, q1, hB, q13, q14, q15, p2, p3, p4⟩ := hQ
  have hB0 := hB
  obtain ⟨f0, f1, f2, f3, f4, f5, f6, f7, f8, f9, f10, f11, g1, g2, g3, g9, g10, g11, g12, g13, g14, g15, g16⟩ := hB
  show PW X 0 [(0, .ref r), (1, .int p), (2, .int v)] [] sh I L R 0 0
  refine pw_aload_n h 0 d_X5_put_0 rfl ?_
  refine pw_getI 5 h d_X5_put_1 fd_RX5_18 (by assumption) rfl ?_
  refine pw_bipush (x := 7) h d_X5_put_4 (by decide) ?_
  refine pw_icmp_ge 39 h d_X5_put_6 (by decide) (fun c_6 => ?_) (fun c_6 => ?_)
  · skip
    have hge : 7 ≤ n := k_ge hn (n := 7) rfl (by omega) (by omega) c_6
    refine pw_vret h hr d_X5_put_39 (by decide) (by decide) ?_
    first | exact ⟨rfl, rfl, by rw [if_neg (by omega)], rfl, rfl⟩ | exact ⟨rfl, rfl, by rw [if_pos hlt, u2_n1 (show r ≠ r + 14 by omega), u2_n1 (show r ≠ r + 13 by omega), hn, nI_1], rfl, rfl⟩
  · skip
    have hlt : n < 7 := k_lt hn (n := 7) rfl (by omega) (by omega) c_6
    have hx : px_ix (I r 1) 7 n := k_ix hn hlt (by decide)
    refine pw_aload_n h 0 d_X5_put_9 rfl ?_
    refine pw_getR (j := (r + 13)) 5 h d_X5_put_10 fd_RX5_22 (by assumption) rfl (by assumption) ?_
    refine pw_aload_n h 0 d_X5_put_13 rfl ?_
    refine pw_getI 5 h d_X5_put_14 fd_RX5_18 (by assumption) rfl ?_
    refine pw_iload_n h 1 d_X5_put_17 rfl ?_
    refine pw_iast h d_X5_put_18 (by assumption) (by assumption) ?_
    refine pw_aload_n h 0 d_X5_put_19 rfl ?_
    refine pw_getR (j := (r + 14)) 5 h d_X5_put_20 fd_RX5_26 (by assumption) rfl (by assumption) ?_
    refine pw_aload_n h 0 d_X5_put_23 rfl ?_
    refine pw_getI 5 h d_X5_put_24 fd_RX5_18 (by assumption) rfl ?_
    rw [u2_n1 (by omega)]
    refine pw_iload_n h 2 d_X5_put_27 rfl ?_
    refine pw_iast h d_X5_put_28 (by assumption) (by assumption) ?_
    refine pw_aload_n h 0 d_X5_put_29 rfl ?_
    refine pw_dupR h d_X5_put_30 ?_
    refine pw_getI 5 h d_X5_put_31 fd_RX5_18 (by assumption) rfl ?_
    refine pw_iconst (x := 1) h d_X5_put_34 (by decide) ?_
    refine pw_iadd h d_X5_put_35 ?_
    refine pw_putI 5 h d_X5_put_36 fd_RX5_18 (by assumption) rfl rfl rfl rfl ?_
    refine pw_vret h hr d_X5_put_39 (by decide) (by decide) ?_
    first | exact ⟨rfl, rfl, by rw [if_neg (by omega)], rfl, rfl⟩ | exact ⟨rfl, rfl, by rw [if_pos hlt, u2_n1 (show r ≠ r + 14 by omega), u2_n1 (show r ≠ r + 13 by omega), hn, nI_1], rfl, rfl⟩

set_option maxHeartbeats 4000000 in
set_option maxRecDepth 100000 in
theorem c_X5_isMember {sh : Sh} {I : IM} {L : LM} {R : RM} {r : Nat} (hQ : RestF sh R r) {k : Nat} {v : Int32} (hx : px_ix v 7 k) : PMet M_X5_isMember [.ref r, .int v] sh I L R (pRet (some (.int (bI (decide (0 ≤ I (r + 15) k))))) sh I L R) := by
  refine PMet.of mf_X5_isMember (Nat.le_of_ble_eq_true rfl) ?_
  intro X h hr hml
  have hml : (xc X).maxLocals = 2 := hml
  have h : PXok X RX5 cX5_isMember 1 0 0 := h
  have hr : PXr X (some .boolean) "isMember" _ 0 0 := hr
  have hQ0 := hQ
  obtain ⟨q0, q1, hB, q13, q14, q15, p2, p3, p4⟩ := hQ
  have hB0 := hB
  obtain ⟨f0, f1, f2, f3, f4, f5, f6, f7, f8, f9, f10, f11, g1, g2, g3, g9, g10, g11, g12, g13, g14, g15, g16⟩ := hB
  show PW X 0 [(0, .ref r), (1, .int v)] [] sh I L R 0 0
  refine pw_aload_n h 0 d_X5_isMember_0 rfl ?_
  refine pw_getR (j := (r + 15)) 5 h d_X5_isMember_1 fd_RX5_29 (by assumption) rfl (by assumption) ?_
  refine pw_iload_n h 1 d_X5_isMember_4 rfl ?_
  refine pw_iald h d_X5_isMember_5 (by assumption) (by assumption) ?_
  refine pw_if_lt 13 h d_X5_isMember_6 (by decide) (fun c_6 => ?_) (fun c_6 => ?_)
  · skip
    refine pw_iconst (x := 0) h d_X5_isMember_13 (by decide) ?_
    refine pw_iret h hr d_X5_isMember_14 rfl (by decide) (by decide) ?_
    first | exact ⟨congrArg (fun z => some (Value.int z)) (bI_t (decide_eq_true (by assumption))), rfl, rfl, rfl, rfl⟩ | exact ⟨congrArg (fun z => some (Value.int z)) (bI_f (decide_eq_false (by assumption))), rfl, rfl, rfl, rfl⟩ | exact ⟨congrArg (fun z => some (Value.int z)) (bI_t (decide_eq_true (ge_of_nlt (by assumption)))), rfl, rfl, rfl, rfl⟩ | exact ⟨congrArg (fun z => some (Value.int z)) (bI_f (decide_eq_false (fun q => nlt_of_ge q (by assumption)))), rfl, rfl, rfl, rfl⟩
  · skip
    refine pw_iconst (x := 1) h d_X5_isMember_9 (by decide) ?_
    refine pw_goto 14 h d_X5_isMember_10 (by decide) ?_
    refine pw_iret h hr d_X5_isMember_14 rfl (by decide) (by decide) ?_
    first | exact ⟨congrArg (fun z => some (Value.int z)) (bI_t (decide_eq_true (by assumption))), rfl, rfl, rfl, rfl⟩ | exact ⟨congrArg (fun z => some (Value.int z)) (bI_f (decide_eq_false (by assumption))), rfl, rfl, rfl, rfl⟩ | exact ⟨congrArg (fun z => some (Value.int z)) (bI_t (decide_eq_true (ge_of_nlt (by assumption)))), rfl, rfl, rfl, rfl⟩ | exact ⟨congrArg (fun z => some (Value.int z)) (bI_f (decide_eq_false (fun q => nlt_of_ge q (by assumption)))), rfl, rfl, rfl, rfl⟩
