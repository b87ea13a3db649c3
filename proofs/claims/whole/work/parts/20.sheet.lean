set_option maxHeartbeats 4000000 in
set_option maxRecDepth 100000 in
theorem c_X6_put {sh : Sh} {I : IM} {L : LM} {R : RM} {b j : Nat} (hS : SheetF sh R b) (hl : I b 1 = 0 ∨ I b 1 = 1 ∨ I b 1 = 2) {i v : Int32} (hx : px_ix i 13 j) : PMet M_X6_put [.ref b, .int i, .int v] sh I L R (pRet none sh (u2 I (b + 1) j (nrw (I b 1) v)) L R) := by
  refine PMet.of mf_X6_put (Nat.le_of_ble_eq_true rfl) ?_
  intro X h hr hml
  have hml : (xc X).maxLocals = 3 := hml
  have h : PXok X RX6 cX6_put 1 0 0 := h
  have hr : PXr X none "put" _ 0 0 := hr
  obtain ⟨f0, f1, g1⟩ := hS
  show PW X 0 [(0, .ref b), (1, .int i), (2, .int v)] [] sh I L R 0 0
  refine pw_aload_n h 0 d_X6_put_0 rfl ?_
  refine pw_getI 6 h d_X6_put_1 fd_RX6_15 (by assumption) rfl ?_
  rcases hl with hl | hl | hl
  · skip
    refine pw_eqI (y := 0) hl ?_
    refine pw_lookup (off := 28) 32 h d_X6_put_4 (by decide) (by decide) (by decide) ?_
    refine pw_aload_n h 0 d_X6_put_32 rfl ?_
    refine pw_getR (j := (b + 1)) 6 h d_X6_put_33 fd_RX6_22 (by assumption) rfl (by assumption) ?_
    refine pw_iload_n h 1 d_X6_put_36 rfl ?_
    refine pw_iload_n h 2 d_X6_put_37 rfl ?_
    refine pw_i2b h d_X6_put_38 ?_
    refine pw_iast h d_X6_put_39 (by assumption) (by assumption) ?_
    refine pw_goto 61 h d_X6_put_40 (by decide) ?_
    refine pw_vret h hr d_X6_put_61 (by decide) (by decide) ?_
    refine ⟨rfl, rfl, ?_, rfl, rfl⟩
    unfold nrw
    rw [hl]
    rfl
  · skip
    refine pw_eqI (y := 1) hl ?_
    refine pw_lookup (off := 39) 43 h d_X6_put_4 (by decide) (by decide) (by decide) ?_
    refine pw_aload_n h 0 d_X6_put_43 rfl ?_
    refine pw_getR (j := (b + 1)) 6 h d_X6_put_44 fd_RX6_22 (by assumption) rfl (by assumption) ?_
    refine pw_iload_n h 1 d_X6_put_47 rfl ?_
    refine pw_iload_n h 2 d_X6_put_48 rfl ?_
    refine pw_i2s h d_X6_put_49 ?_
    refine pw_iast h d_X6_put_50 (by assumption) (by assumption) ?_
    refine pw_goto 61 h d_X6_put_51 (by decide) ?_
    refine pw_vret h hr d_X6_put_61 (by decide) (by decide) ?_
    refine ⟨rfl, rfl, ?_, rfl, rfl⟩
    unfold nrw
    rw [hl]
    rfl
  · skip
    refine pw_eqI (y := 2) hl ?_
    refine pw_lookup (off := 50) 54 h d_X6_put_4 (by decide) (by decide) (by decide) ?_
    refine pw_aload_n h 0 d_X6_put_54 rfl ?_
    refine pw_getR (j := (b + 1)) 6 h d_X6_put_55 fd_RX6_22 (by assumption) rfl (by assumption) ?_
    refine pw_iload_n h 1 d_X6_put_58 rfl ?_
    refine pw_iload_n h 2 d_X6_put_59 rfl ?_
    refine pw_iast h d_X6_put_60 (by assumption) (by assumption) ?_
    refine pw_vret h hr d_X6_put_61 (by decide) (by decide) ?_
    refine ⟨rfl, rfl, ?_, rfl, rfl⟩
    unfold nrw
    rw [hl]
    rfl

set_option maxHeartbeats 4000000 in
set_option maxRecDepth 100000 in
theorem c_X7_sheet {sh : Sh} {I : IM} {L : LM} {R : RM} (hC : ClassF sh R) (s l n : Int32) : PMet M_X7_sheet [.ref 0, .int s, .int l, .int n] sh I L R (pIf (isW s 0 3 && isW l 0 2 && decide (n ≤ 13)) (pIf (decide (0 ≤ n)) (pRet (some (.int n)) sh (begI I (73 + 2 * s.toNatClampNeg) l n) L R) (pRet (some (.int (-14))) sh I L R)) (pRet (some (.int (-1))) sh I L R)) := by
  refine PMet.of mf_X7_sheet (Nat.le_of_ble_eq_true rfl) ?_
  intro X h hr hml
  have hml : (xc X).maxLocals = 4 := hml
  have h : PXok X RX7 cX7_sheet 3 0 0 := h
  have hr : PXr X (some .int) "sheet" _ 0 0 := hr
  have hC0 := hC
  obtain ⟨k0, r0, r1, r2, r4, r5, r6, r7, r8, r13, r15, r16, hL, k7, r7s, k8s, k12, k20, r20s, hSs, k71, k72⟩ := hC
  have hL0 := hL
  obtain ⟨f0, f1, f2, f3, f4, f5, g1, g2, g3, g4, g5⟩ := hL
  show PW X 0 [(0, .ref 0), (1, .int s), (2, .int l), (3, .int n)] [] sh I L R 0 0
  refine pw_iload_n h 1 d_X7_sheet_0 rfl ?_
  refine pw_callS (As := [.int _]) h d_X7_sheet_1 mf_X7_isSheet st_yX7_isSheet ml_RX7_138 ⟨by decide, by decide, by decide⟩ rfl rfl (Nat.le_of_ble_eq_true rfl) c_X7_isSheet ?_
  refine PKk.ret ?_
  refine pw_if_eq 20 h d_X7_sheet_4 (by decide) (fun c_4 => ?_) (fun c_4 => ?_)
  · skip
    rw [bI_1] at c_4
    refine pw_iconst (x := (-1)) h d_X7_sheet_20 (by decide) ?_
    refine pw_iret h hr d_X7_sheet_21 rfl (by decide) (by decide) ?_
    first | (refine pIf_f ?_ pRet_self; simp only [isBn, c_4, Bool.and_true, Bool.true_and, Bool.and_false, Bool.false_and]; done) | (refine pIf_f ?_ pRet_self; simp only [isBn, c_4, c_11, Bool.and_true, Bool.true_and, Bool.and_false, Bool.false_and]; done) | (refine pIf_f ?_ pRet_self; simp only [isBn, c_4, c_11, c_17, Bool.and_true, Bool.true_and, Bool.and_false, Bool.false_and]; done)
  · skip
    rw [bI_1, Bool.not_eq_false] at c_4
    refine pw_iload_n h 2 d_X7_sheet_7 rfl ?_
    refine pw_callS (As := [.int _]) h d_X7_sheet_8 mf_X7_isLane st_yX7_isLane ml_RX7_141 ⟨by decide, by decide, by decide⟩ rfl rfl (Nat.le_of_ble_eq_true rfl) c_X7_isLane ?_
    refine PKk.ret ?_
    refine pw_if_eq 20 h d_X7_sheet_11 (by decide) (fun c_11 => ?_) (fun c_11 => ?_)
    · skip
      rw [bI_1] at c_11
      refine pw_iconst (x := (-1)) h d_X7_sheet_20 (by decide) ?_
      refine pw_iret h hr d_X7_sheet_21 rfl (by decide) (by decide) ?_
      first | (refine pIf_f ?_ pRet_self; simp only [isBn, c_4, Bool.and_true, Bool.true_and, Bool.and_false, Bool.false_and]; done) | (refine pIf_f ?_ pRet_self; simp only [isBn, c_4, c_11, Bool.and_true, Bool.true_and, Bool.and_false, Bool.false_and]; done) | (refine pIf_f ?_ pRet_self; simp only [isBn, c_4, c_11, c_17, Bool.and_true, Bool.true_and, Bool.and_false, Bool.false_and]; done)
    · skip
      rw [bI_1, Bool.not_eq_false] at c_11
      refine pw_iload_n h 3 d_X7_sheet_14 rfl ?_
      refine pw_bipush (x := 13) h d_X7_sheet_15 (by decide) ?_
      refine pw_icmp_le 22 h d_X7_sheet_17 (by decide) (fun c_17 => ?_) (fun c_17 => ?_)
      · skip
        have c_17 : decide (n ≤ 13) = true := decide_eq_true c_17
        refine pw_iload_n h 3 d_X7_sheet_22 rfl ?_
        refine pw_if_ge 29 h d_X7_sheet_23 (by decide) (fun c_23 => ?_) (fun c_23 => ?_)
        · skip
          have c_23 : decide (0 ≤ n) = true := decide_eq_true c_23
          have hx := isW_ix (N := 4) c_4 rfl (by decide)
          have hz := r20s _ (px_ix_lt hx)
          have hS := hSs _ (px_ix_lt hx)
          obtain ⟨q0, q1, q3⟩ := id hS
          refine pw_aload_n h 0 d_X7_sheet_29 rfl ?_
          refine pw_getR (j := 20) 7 h d_X7_sheet_30 fd_RX7_38 (by assumption) rfl (by assumption) ?_
          refine pw_iload_n h 1 d_X7_sheet_33 rfl ?_
          refine pw_aald (z := (73 + 2 * s.toNatClampNeg)) h d_X7_sheet_34 (by assumption) rfl rfl (t0 := 3) (fun _ => rfl) (by assumption) (by assumption) ?_
          refine pw_iload_n h 2 d_X7_sheet_35 rfl ?_
          refine pw_iload_n h 3 d_X7_sheet_36 rfl ?_
          refine pw_callV (As := [.int _, .int _]) h d_X7_sheet_37 mf_X6_begin mi_X6_begin ml_RX7_294 ⟨by decide, by decide, by decide⟩ (by assumption) rfl rfl (Nat.le_of_ble_eq_true rfl) trivial (c_X6_begin hS l n) ?_
          refine PKk.ret ?_
          refine pw_iload_n h 3 d_X7_sheet_40 rfl ?_
          refine pw_iret h hr d_X7_sheet_41 rfl (by decide) (by decide) ?_
          exact pIf_t (by simp only [isBn, c_4, c_11, c_17, Bool.and_true, Bool.true_and, Bool.and_false, Bool.false_and]) (pIf_t c_23 pRet_self)
        · skip
          have c_23 : decide (0 ≤ n) = false := decide_eq_false c_23
          refine pw_bipush (x := (-14)) h d_X7_sheet_26 (by decide) ?_
          refine pw_iret h hr d_X7_sheet_28 rfl (by decide) (by decide) ?_
          exact pIf_t (by simp only [isBn, c_4, c_11, c_17, Bool.and_true, Bool.true_and, Bool.and_false, Bool.false_and]) (pIf_f c_23 pRet_self)
      · skip
        have c_17 : decide (n ≤ 13) = false := decide_eq_false c_17
        refine pw_iconst (x := (-1)) h d_X7_sheet_20 (by decide) ?_
        refine pw_iret h hr d_X7_sheet_21 rfl (by decide) (by decide) ?_
        first | (refine pIf_f ?_ pRet_self; simp only [isBn, c_4, Bool.and_true, Bool.true_and, Bool.and_false, Bool.false_and]; done) | (refine pIf_f ?_ pRet_self; simp only [isBn, c_4, c_11, Bool.and_true, Bool.true_and, Bool.and_false, Bool.false_and]; done) | (refine pIf_f ?_ pRet_self; simp only [isBn, c_4, c_11, c_17, Bool.and_true, Bool.true_and, Bool.and_false, Bool.false_and]; done)

set_option maxHeartbeats 4000000 in
set_option maxRecDepth 100000 in
theorem c_X7_drop {sh : Sh} {I : IM} {L : LM} {R : RM} (hC : ClassF sh R) (s : Int32) : PMet M_X7_drop [.ref 0, .int s] sh I L R (pIf (isW s 0 3) (pIf (decide (I (73 + 2 * s.toNatClampNeg) 0 = 0)) (pRet (some (.int (-11))) sh I L R) (pRet (some (.int (I (73 + 2 * s.toNatClampNeg) 2))) sh (u2 I (73 + 2 * s.toNatClampNeg) 0 0) L R)) (pRet (some (.int (-1))) sh I L R)) := by
  refine PMet.of mf_X7_drop (Nat.le_of_ble_eq_true rfl) ?_
  intro X h hr hml
  have hml : (xc X).maxLocals = 3 := hml
  have h : PXok X RX7 cX7_drop 3 0 0 := h
  have hr : PXr X (some .int) "drop" _ 0 0 := hr
  have hC0 := hC
  obtain ⟨k0, r0, r1, r2, r4, r5, r6, r7, r8, r13, r15, r16, hL, k7, r7s, k8s, k12, k20, r20s, hSs, k71, k72⟩ := hC
  have hL0 := hL
  obtain ⟨f0, f1, f2, f3, f4, f5, g1, g2, g3, g4, g5⟩ := hL
  show PW X 0 [(0, .ref 0), (1, .int s)] [] sh I L R 0 0
  refine pw_iload_n h 1 d_X7_drop_0 rfl ?_
  refine pw_callS (As := [.int _]) h d_X7_drop_1 mf_X7_isSheet st_yX7_isSheet ml_RX7_138 ⟨by decide, by decide, by decide⟩ rfl rfl (Nat.le_of_ble_eq_true rfl) c_X7_isSheet ?_
  refine PKk.ret ?_
  refine pw_if_ne 9 h d_X7_drop_4 (by decide) (fun c_4 => ?_) (fun c_4 => ?_)
  · skip
    rw [bI_1, Bool.not_eq_false] at c_4
    have hx := isW_ix (N := 4) c_4 rfl (by decide)
    have hz := r20s _ (px_ix_lt hx)
    have hS := hSs _ (px_ix_lt hx)
    obtain ⟨q0, q1, q3⟩ := id hS
    refine pw_aload_n h 0 d_X7_drop_9 rfl ?_
    refine pw_getR (j := 20) 7 h d_X7_drop_10 fd_RX7_38 (by assumption) rfl (by assumption) ?_
    refine pw_iload_n h 1 d_X7_drop_13 rfl ?_
    refine pw_aald (z := (73 + 2 * s.toNatClampNeg)) h d_X7_drop_14 (by assumption) rfl rfl (t0 := 3) (fun _ => rfl) (by assumption) (by assumption) ?_
    refine pw_astore_n (lv' := [(2, .ref (73 + 2 * s.toNatClampNeg)), (0, .ref 0), (1, .int s)]) h d_X7_drop_15 rfl _ hml (by decide) rfl ?_
    refine pw_aload_n h 0 d_X7_drop_16 rfl ?_
    refine pw_getI 6 h d_X7_drop_17 fd_RX7_297 (by assumption) rfl ?_
    refine pw_if_ne 26 h d_X7_drop_20 (by decide) (fun c_20 => ?_) (fun c_20 => ?_)
    · skip
      refine pw_aload_n h 0 d_X7_drop_26 rfl ?_
      refine pw_iconst (x := 0) h d_X7_drop_27 (by decide) ?_
      refine pw_putI 6 h d_X7_drop_28 fd_RX7_297 (by assumption) rfl rfl rfl rfl ?_
      refine pw_aload_n h 0 d_X7_drop_31 rfl ?_
      refine pw_getI 6 h d_X7_drop_32 fd_RX7_300 (by assumption) rfl ?_
      refine pw_iret h hr d_X7_drop_35 rfl (by decide) (by decide) ?_
      rw [u2_n2 (by decide)]
      exact pIf_t c_4 (pIf_f (decide_eq_false c_20) pRet_self)
    · skip
      refine pw_bipush (x := (-11)) h d_X7_drop_23 (by decide) ?_
      refine pw_iret h hr d_X7_drop_25 rfl (by decide) (by decide) ?_
      exact pIf_t c_4 (pIf_t (decide_eq_true c_20) pRet_self)
  · skip
    rw [bI_1] at c_4
    refine pw_iconst (x := (-1)) h d_X7_drop_7 (by decide) ?_
    refine pw_iret h hr d_X7_drop_8 rfl (by decide) (by decide) ?_
    exact pIf_f c_4 pRet_self

set_option maxHeartbeats 4000000 in
set_option maxRecDepth 100000 in
theorem c_X7_item {sh : Sh} {I : IM} {L : LM} {R : RM} (hC : ClassF sh R) (hsz : ∀ j, j < 4 → 0 ≤ (I (73 + 2 * j) 2).toInt ∧ (I (73 + 2 * j) 2).toInt ≤ 13) (hln : ∀ j, j < 4 → I (73 + 2 * j) 1 = 0 ∨ I (73 + 2 * j) 1 = 1 ∨ I (73 + 2 * j) 1 = 2) (s l i v : Int32) : PMet M_X7_item [.ref 0, .int s, .int l, .int i, .int v] sh I L R (pIf (isW s 0 3 && isW l 0 2) (pIf (decide (faultS (I (73 + 2 * s.toNatClampNeg) 0) (I (73 + 2 * s.toNatClampNeg) 1) (I (73 + 2 * s.toNatClampNeg) 2) l i 1 < 0)) (pRet (some (.int (faultS (I (73 + 2 * s.toNatClampNeg) 0) (I (73 + 2 * s.toNatClampNeg) 1) (I (73 + 2 * s.toNatClampNeg) 2) l i 1))) sh I L R) (pRet (some (.int 1)) sh (u2 I ((73 + 2 * s.toNatClampNeg) + 1) i.toNatClampNeg (nrw l v)) L R)) (pRet (some (.int (-1))) sh I L R)) := by
  refine PMet.of mf_X7_item (Nat.le_of_ble_eq_true rfl) ?_
  intro X h hr hml
  have hml : (xc X).maxLocals = 6 := hml
  have h : PXok X RX7 cX7_item 3 0 0 := h
  have hr : PXr X (some .int) "item" _ 0 0 := hr
  have hC0 := hC
  obtain ⟨k0, r0, r1, r2, r4, r5, r6, r7, r8, r13, r15, r16, hL, k7, r7s, k8s, k12, k20, r20s, hSs, k71, k72⟩ := hC
  have hL0 := hL
  obtain ⟨f0, f1, f2, f3, f4, f5, g1, g2, g3, g4, g5⟩ := hL
  show PW X 0 [(0, .ref 0), (1, .int s), (2, .int l), (3, .int i), (4, .int v)] [] sh I L R 0 0
  refine pw_iload_n h 1 d_X7_item_0 rfl ?_
  refine pw_callS (As := [.int _]) h d_X7_item_1 mf_X7_isSheet st_yX7_isSheet ml_RX7_138 ⟨by decide, by decide, by decide⟩ rfl rfl (Nat.le_of_ble_eq_true rfl) c_X7_isSheet ?_
  refine PKk.ret ?_
  refine pw_if_eq 14 h d_X7_item_4 (by decide) (fun c_4 => ?_) (fun c_4 => ?_)
  · skip
    rw [bI_1] at c_4
    refine pw_iconst (x := (-1)) h d_X7_item_14 (by decide) ?_
    refine pw_iret h hr d_X7_item_15 rfl (by decide) (by decide) ?_
    first | (refine pIf_f ?_ pRet_self; simp only [isBn, c_4, Bool.and_true, Bool.true_and, Bool.and_false, Bool.false_and]; done) | (refine pIf_f ?_ pRet_self; simp only [isBn, c_4, c_11, Bool.and_true, Bool.true_and, Bool.and_false, Bool.false_and]; done)
  · skip
    rw [bI_1, Bool.not_eq_false] at c_4
    refine pw_iload_n h 2 d_X7_item_7 rfl ?_
    refine pw_callS (As := [.int _]) h d_X7_item_8 mf_X7_isLane st_yX7_isLane ml_RX7_141 ⟨by decide, by decide, by decide⟩ rfl rfl (Nat.le_of_ble_eq_true rfl) c_X7_isLane ?_
    refine PKk.ret ?_
    refine pw_if_ne 16 h d_X7_item_11 (by decide) (fun c_11 => ?_) (fun c_11 => ?_)
    · skip
      rw [bI_1, Bool.not_eq_false] at c_11
      have hx := isW_ix (N := 4) c_4 rfl (by decide)
      have hz := r20s _ (px_ix_lt hx)
      have hS := hSs _ (px_ix_lt hx)
      obtain ⟨q0, q1, q3⟩ := id hS
      refine pw_aload_n h 0 d_X7_item_16 rfl ?_
      refine pw_getR (j := 20) 7 h d_X7_item_17 fd_RX7_38 (by assumption) rfl (by assumption) ?_
      refine pw_iload_n h 1 d_X7_item_20 rfl ?_
      refine pw_aald (z := (73 + 2 * s.toNatClampNeg)) h d_X7_item_21 (by assumption) rfl rfl (t0 := 3) (fun _ => rfl) (by assumption) (by assumption) ?_
      refine pw_iload_n h 2 d_X7_item_22 rfl ?_
      refine pw_iload_n h 3 d_X7_item_23 rfl ?_
      refine pw_iconst (x := 1) h d_X7_item_24 (by decide) ?_
      refine pw_callV (As := [.int _, .int _, .int _]) h d_X7_item_25 mf_X6_faultOf mi_X6_faultOf ml_RX7_144 ⟨by decide, by decide, by decide⟩ (by assumption) rfl rfl (Nat.le_of_ble_eq_true rfl) trivial (c_X6_faultOf hS l i 1) ?_
      refine PKk.ret ?_
      refine pw_nmI (fun v5_28 e5_28 => ?_)
      refine pw_istore (lv' := [(5, .int v5_28), (0, .ref 0), (1, .int s), (2, .int l), (3, .int i), (4, .int v)]) h d_X7_item_28 _ hml (by decide) rfl ?_
      refine pw_iload h 0 d_X7_item_30 rfl ?_
      refine pw_if_ge 38 h d_X7_item_32 (by decide) (fun c_32 => ?_) (fun c_32 => ?_)
      · skip
        rw [e5_28] at c_32
        have hf := faultS_ok (nlt_of_ge c_32)
        have hi0 : px_ix i 13 (i.toNatClampNeg + 0) := by have := hasB_ix (k := 0) hf.2.2 (hsz _ (px_ix_lt hx)) (by decide); rwa [show i + nI 0 = i from Int32.add_zero i] at this
        refine pw_aload_n h 1 d_X7_item_38 rfl ?_
        refine pw_getR (j := 20) 7 h d_X7_item_39 fd_RX7_38 (by assumption) rfl (by assumption) ?_
        refine pw_iload_n h 2 d_X7_item_42 rfl ?_
        refine pw_aald (z := (73 + 2 * s.toNatClampNeg)) h d_X7_item_43 (by assumption) rfl rfl (t0 := 3) (fun _ => rfl) (by assumption) (by assumption) ?_
        refine pw_iload_n h 4 d_X7_item_44 rfl ?_
        refine pw_iload h 5 d_X7_item_45 rfl ?_
        refine pw_callV (As := [.int _, .int _]) h d_X7_item_47 mf_X6_put mi_X6_put ml_RX7_301 ⟨by decide, by decide, by decide⟩ (by assumption) rfl rfl (Nat.le_of_ble_eq_true rfl) trivial (c_X6_put hS (hln _ (px_ix_lt hx)) hi0) ?_
        refine PKk.ret ?_
        refine pw_iconst (x := 1) h d_X7_item_50 (by decide) ?_
        refine pw_iret h hr d_X7_item_51 rfl (by decide) (by decide) ?_
        have e9 : nrw (I (73 + 2 * s.toNatClampNeg) 1) v = nrw l v := by rw [hf.2.1]
        rw [e9]
        exact pIf_t (by simp only [isBn, c_4, c_11, Bool.and_true, Bool.true_and, Bool.and_false, Bool.false_and]) (pIf_f (decide_eq_false (nlt_of_ge c_32)) pRet_self)
      · skip
        rw [e5_28] at c_32
        refine pw_iload h 0 d_X7_item_35 rfl ?_
        refine pw_iret h hr d_X7_item_37 rfl (by decide) (by decide) ?_
        rw [e5_28]
        exact pIf_t (by simp only [isBn, c_4, c_11, Bool.and_true, Bool.true_and, Bool.and_false, Bool.false_and]) (pIf_t (decide_eq_true (lt_of_nge c_32)) pRet_self)
    · skip
      rw [bI_1] at c_11
      refine pw_iconst (x := (-1)) h d_X7_item_14 (by decide) ?_
      refine pw_iret h hr d_X7_item_15 rfl (by decide) (by decide) ?_
      first | (refine pIf_f ?_ pRet_self; simp only [isBn, c_4, Bool.and_true, Bool.true_and, Bool.and_false, Bool.false_and]; done) | (refine pIf_f ?_ pRet_self; simp only [isBn, c_4, c_11, Bool.and_true, Bool.true_and, Bool.and_false, Bool.false_and]; done)

set_option maxHeartbeats 4000000 in
set_option maxRecDepth 100000 in
theorem c_X7_copy {sh : Sh} {I : IM} {L : LM} {R : RM} (hC : ClassF sh R) (hsz : ∀ j, j < 4 → 0 ≤ (I (73 + 2 * j) 2).toInt ∧ (I (73 + 2 * j) 2).toInt ≤ 13) (hln : ∀ j, j < 4 → I (73 + 2 * j) 1 = 0 ∨ I (73 + 2 * j) 1 = 1 ∨ I (73 + 2 * j) 1 = 2) (s i t j n : Int32) : PMet M_X7_copy [.ref 0, .int s, .int i, .int t, .int j, .int n] sh I L R (pIf (isW s 0 3 && isW t 0 3) (pIf (decide (¬ I (73 + 2 * s.toNatClampNeg) 0 = 0 ∧ ¬ I (73 + 2 * t.toNatClampNeg) 0 = 0)) (pIf (decide (I (73 + 2 * s.toNatClampNeg) 1 = I (73 + 2 * t.toNatClampNeg) 1)) (pIf (hasB (I (73 + 2 * s.toNatClampNeg) 2) i n && hasB (I (73 + 2 * t.toNatClampNeg) 2) j n) (pRet (some (.int n)) sh (u1 I ((73 + 2 * t.toNatClampNeg) + 1) (va_cpy (I ((73 + 2 * s.toNatClampNeg) + 1)) (I ((73 + 2 * t.toNatClampNeg) + 1)) i.toNatClampNeg j.toNatClampNeg n.toNatClampNeg)) L R) (pRet (some (.int (-13))) sh I L R)) (pRet (some (.int (-12))) sh I L R)) (pRet (some (.int (-11))) sh I L R)) (pRet (some (.int (-1))) sh I L R)) := by
  refine PMet.of mf_X7_copy (Nat.le_of_ble_eq_true rfl) ?_
  intro X h hr hml
  have hml : (xc X).maxLocals = 8 := hml
  have h : PXok X RX7 cX7_copy 3 0 0 := h
  have hr : PXr X (some .int) "copy" _ 0 0 := hr
  have hC0 := hC
  obtain ⟨k0, r0, r1, r2, r4, r5, r6, r7, r8, r13, r15, r16, hL, k7, r7s, k8s, k12, k20, r20s, hSs, k71, k72⟩ := hC
  have hL0 := hL
  obtain ⟨f0, f1, f2, f3, f4, f5, g1, g2, g3, g4, g5⟩ := hL
  show PW X 0 [(0, .ref 0), (1, .int s), (2, .int i), (3, .int t), (4, .int j), (5, .int n)] [] sh I L R 0 0
  refine pw_iload_n h 1 d_X7_copy_0 rfl ?_
  refine pw_callS (As := [.int _]) h d_X7_copy_1 mf_X7_isSheet st_yX7_isSheet ml_RX7_138 ⟨by decide, by decide, by decide⟩ rfl rfl (Nat.le_of_ble_eq_true rfl) c_X7_isSheet ?_
  refine PKk.ret ?_
  refine pw_if_eq 14 h d_X7_copy_4 (by decide) (fun c_4 => ?_) (fun c_4 => ?_)
  · skip
    rw [bI_1] at c_4
    refine pw_iconst (x := (-1)) h d_X7_copy_14 (by decide) ?_
    refine pw_iret h hr d_X7_copy_15 rfl (by decide) (by decide) ?_
    first | (refine pIf_f ?_ pRet_self; simp only [isBn, c_4, Bool.and_true, Bool.true_and, Bool.and_false, Bool.false_and]; done) | (refine pIf_f ?_ pRet_self; simp only [isBn, c_4, c_11, Bool.and_true, Bool.true_and, Bool.and_false, Bool.false_and]; done)
  · skip
    rw [bI_1, Bool.not_eq_false] at c_4
    refine pw_iload_n h 3 d_X7_copy_7 rfl ?_
    refine pw_callS (As := [.int _]) h d_X7_copy_8 mf_X7_isSheet st_yX7_isSheet ml_RX7_138 ⟨by decide, by decide, by decide⟩ rfl rfl (Nat.le_of_ble_eq_true rfl) c_X7_isSheet ?_
    refine PKk.ret ?_
    refine pw_if_ne 16 h d_X7_copy_11 (by decide) (fun c_11 => ?_) (fun c_11 => ?_)
    · skip
      rw [bI_1, Bool.not_eq_false] at c_11
      have hx := isW_ix (N := 4) c_4 rfl (by decide)
      have hz := r20s _ (px_ix_lt hx)
      have hS := hSs _ (px_ix_lt hx)
      obtain ⟨q0, q1, q3⟩ := id hS
      have hxt := isW_ix (N := 4) c_11 rfl (by decide)
      have hzt := r20s _ (px_ix_lt hxt)
      have hSt := hSs _ (px_ix_lt hxt)
      obtain ⟨q0t, q1t, q3t⟩ := id hSt
      refine pw_aload_n h 0 d_X7_copy_16 rfl ?_
      refine pw_getR (j := 20) 7 h d_X7_copy_17 fd_RX7_38 (by assumption) rfl (by assumption) ?_
      refine pw_iload_n h 1 d_X7_copy_20 rfl ?_
      refine pw_aald (z := (73 + 2 * s.toNatClampNeg)) h d_X7_copy_21 (by assumption) rfl rfl (t0 := 3) (fun _ => rfl) (by assumption) (by assumption) ?_
      refine pw_astore (lv' := [(6, .ref (73 + 2 * s.toNatClampNeg)), (0, .ref 0), (1, .int s), (2, .int i), (3, .int t), (4, .int j), (5, .int n)]) h d_X7_copy_22 _ hml (by decide) rfl ?_
      refine pw_aload_n h 1 d_X7_copy_24 rfl ?_
      refine pw_getR (j := 20) 7 h d_X7_copy_25 fd_RX7_38 (by assumption) rfl (by assumption) ?_
      refine pw_iload_n h 4 d_X7_copy_28 rfl ?_
      refine pw_aald (z := (73 + 2 * t.toNatClampNeg)) h d_X7_copy_29 (by assumption) rfl rfl (t0 := 3) (fun _ => rfl) (by assumption) (by assumption) ?_
      refine pw_astore (lv' := [(7, .ref (73 + 2 * t.toNatClampNeg)), (6, .ref (73 + 2 * s.toNatClampNeg)), (0, .ref 0), (1, .int s), (2, .int i), (3, .int t), (4, .int j), (5, .int n)]) h d_X7_copy_30 _ hml (by decide) rfl ?_
      refine pw_aload h 1 d_X7_copy_32 rfl ?_
      refine pw_getI 6 h d_X7_copy_34 fd_RX7_297 (by assumption) rfl ?_
      refine pw_if_eq 48 h d_X7_copy_37 (by decide) (fun c_37 => ?_) (fun c_37 => ?_)
      · skip
        refine pw_bipush (x := (-11)) h d_X7_copy_48 (by decide) ?_
        refine pw_iret h hr d_X7_copy_50 rfl (by decide) (by decide) ?_
        first | exact pIf_t (by simp only [isBn, c_4, c_11, Bool.and_true, Bool.true_and, Bool.and_false, Bool.false_and]) (pIf_f (decide_eq_false (fun q => q.1 c_37)) pRet_self) | exact pIf_t (by simp only [isBn, c_4, c_11, Bool.and_true, Bool.true_and, Bool.and_false, Bool.false_and]) (pIf_f (decide_eq_false (fun q => q.2 c_45)) pRet_self)
      · skip
        refine pw_aload h 0 d_X7_copy_40 rfl ?_
        refine pw_getI 6 h d_X7_copy_42 fd_RX7_297 (by assumption) rfl ?_
        refine pw_if_ne 51 h d_X7_copy_45 (by decide) (fun c_45 => ?_) (fun c_45 => ?_)
        · skip
          refine pw_aload h 1 d_X7_copy_51 rfl ?_
          refine pw_getI 6 h d_X7_copy_53 fd_RX7_302 (by assumption) rfl ?_
          refine pw_aload h 0 d_X7_copy_56 rfl ?_
          refine pw_getI 6 h d_X7_copy_58 fd_RX7_302 (by assumption) rfl ?_
          refine pw_icmp_eq 67 h d_X7_copy_61 (by decide) (fun c_61 => ?_) (fun c_61 => ?_)
          · skip
            have ha := hsz _ (px_ix_lt hx)
            have hb := hsz _ (px_ix_lt hxt)
            refine pw_aload h 1 d_X7_copy_67 rfl ?_
            refine pw_iload_n h 4 d_X7_copy_69 rfl ?_
            refine pw_iload h 7 d_X7_copy_70 rfl ?_
            refine pw_callV (As := [.int _, .int _]) h d_X7_copy_72 mf_X6_has mi_X6_has ml_RX7_305 ⟨by decide, by decide, by decide⟩ (by assumption) rfl rfl (Nat.le_of_ble_eq_true rfl) trivial (c_X6_has hS i n) ?_
            refine PKk.ret ?_
            refine pw_if_eq 90 h d_X7_copy_75 (by decide) (fun c_75 => ?_) (fun c_75 => ?_)
            · skip
              rw [bI_1] at c_75
              refine pw_bipush (x := (-13)) h d_X7_copy_90 (by decide) ?_
              refine pw_iret h hr d_X7_copy_92 rfl (by decide) (by decide) ?_
              refine pIf_t (by simp only [isBn, c_4, c_11, Bool.and_true, Bool.true_and, Bool.and_false, Bool.false_and]) (pIf_t (decide_eq_true ⟨c_37, c_45⟩) (pIf_t (decide_eq_true c_61) (pIf_f ?_ pRet_self)))
              first | (simp only [c_75, Bool.and_true, Bool.true_and, Bool.and_false, Bool.false_and]; done) | (simp only [c_75, c_87, Bool.and_true, Bool.true_and, Bool.and_false, Bool.false_and]; done)
            · skip
              rw [bI_1, Bool.not_eq_false] at c_75
              refine pw_aload h 0 d_X7_copy_78 rfl ?_
              refine pw_iload h 6 d_X7_copy_80 rfl ?_
              refine pw_iload h 7 d_X7_copy_82 rfl ?_
              refine pw_callV (As := [.int _, .int _]) h d_X7_copy_84 mf_X6_has mi_X6_has ml_RX7_305 ⟨by decide, by decide, by decide⟩ (by assumption) rfl rfl (Nat.le_of_ble_eq_true rfl) trivial (c_X6_has hSt j n) ?_
              refine PKk.ret ?_
              refine pw_if_ne 93 h d_X7_copy_87 (by decide) (fun c_87 => ?_) (fun c_87 => ?_)
              · skip
                rw [bI_1, Bool.not_eq_false] at c_87
                have hi := hasB_in c_75 ha
                have hj := hasB_in c_87 hb
                have ki := k_nn hi.1
                have kj := k_nn hj.1
                have kn := k_nn hi.2.1
                refine pw_aload h 1 d_X7_copy_93 rfl ?_
                refine pw_getR (j := ((73 + 2 * s.toNatClampNeg) + 1)) 6 h d_X7_copy_95 fd_RX7_148 (by assumption) rfl (by assumption) ?_
                refine pw_iload_n h 4 d_X7_copy_98 rfl ?_
                refine pw_aload h 0 d_X7_copy_99 rfl ?_
                refine pw_getR (j := ((73 + 2 * t.toNatClampNeg) + 1)) 6 h d_X7_copy_101 fd_RX7_148 (by assumption) rfl (by assumption) ?_
                refine pw_iload h 6 d_X7_copy_104 rfl ?_
                refine pw_iload h 7 d_X7_copy_106 rfl ?_
                refine pw_copy h d_X7_copy_108 ml_RX7_308 (by decide) (Nat.le_of_ble_eq_true rfl) (by assumption) (by assumption) (by rw [Int32.lt_iff_toInt_lt]; show ¬ _ < (0 : Int); omega) (by rw [Int32.lt_iff_toInt_lt]; show ¬ _ < (0 : Int); omega) (by rw [Int32.lt_iff_toInt_lt]; show ¬ _ < (0 : Int); omega) (by omega) (by omega) ?_
                refine pw_iload h 7 d_X7_copy_111 rfl ?_
                refine pw_iret h hr d_X7_copy_113 rfl (by decide) (by decide) ?_
                exact pIf_t (by simp only [isBn, c_4, c_11, Bool.and_true, Bool.true_and, Bool.and_false, Bool.false_and]) (pIf_t (decide_eq_true ⟨c_37, c_45⟩) (pIf_t (decide_eq_true c_61) (pIf_t (by simp only [c_75, c_87, Bool.and_true, Bool.true_and, Bool.and_false, Bool.false_and]) pRet_self)))
              · skip
                rw [bI_1] at c_87
                refine pw_bipush (x := (-13)) h d_X7_copy_90 (by decide) ?_
                refine pw_iret h hr d_X7_copy_92 rfl (by decide) (by decide) ?_
                refine pIf_t (by simp only [isBn, c_4, c_11, Bool.and_true, Bool.true_and, Bool.and_false, Bool.false_and]) (pIf_t (decide_eq_true ⟨c_37, c_45⟩) (pIf_t (decide_eq_true c_61) (pIf_f ?_ pRet_self)))
                first | (simp only [c_75, Bool.and_true, Bool.true_and, Bool.and_false, Bool.false_and]; done) | (simp only [c_75, c_87, Bool.and_true, Bool.true_and, Bool.and_false, Bool.false_and]; done)
          · skip
            refine pw_bipush (x := (-12)) h d_X7_copy_64 (by decide) ?_
            refine pw_iret h hr d_X7_copy_66 rfl (by decide) (by decide) ?_
            exact pIf_t (by simp only [isBn, c_4, c_11, Bool.and_true, Bool.true_and, Bool.and_false, Bool.false_and]) (pIf_t (decide_eq_true ⟨c_37, c_45⟩) (pIf_f (decide_eq_false c_61) pRet_self))
        · skip
          refine pw_bipush (x := (-11)) h d_X7_copy_48 (by decide) ?_
          refine pw_iret h hr d_X7_copy_50 rfl (by decide) (by decide) ?_
          first | exact pIf_t (by simp only [isBn, c_4, c_11, Bool.and_true, Bool.true_and, Bool.and_false, Bool.false_and]) (pIf_f (decide_eq_false (fun q => q.1 c_37)) pRet_self) | exact pIf_t (by simp only [isBn, c_4, c_11, Bool.and_true, Bool.true_and, Bool.and_false, Bool.false_and]) (pIf_f (decide_eq_false (fun q => q.2 c_45)) pRet_self)
    · skip
      rw [bI_1] at c_11
      refine pw_iconst (x := (-1)) h d_X7_copy_14 (by decide) ?_
      refine pw_iret h hr d_X7_copy_15 rfl (by decide) (by decide) ?_
      first | (refine pIf_f ?_ pRet_self; simp only [isBn, c_4, Bool.and_true, Bool.true_and, Bool.and_false, Bool.false_and]; done) | (refine pIf_f ?_ pRet_self; simp only [isBn, c_4, c_11, Bool.and_true, Bool.true_and, Bool.and_false, Bool.false_and]; done)
