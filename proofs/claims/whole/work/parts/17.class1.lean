set_option maxHeartbeats 4000000 in
set_option maxRecDepth 100000 in
theorem c_X7_forgetAnswers {sh : Sh} {I : IM} {L : LM} {R : RM} (hC : ClassF sh R) : PMet M_X7_forgetAnswers [.ref 0] sh I L R (pRet none sh (forgI I) L R) := by
  refine PMet.of mf_X7_forgetAnswers (Nat.le_of_ble_eq_true rfl) ?_
  intro X h hr hml
  have hml : (xc X).maxLocals = 1 := hml
  have h : PXok X RX7 cX7_forgetAnswers 1 0 0 := h
  have hr : PXr X none "forgetAnswers" _ 0 0 := hr
  have hC0 := hC
  obtain ⟨k0, r0, r1, r2, r4, r5, r6, r7, r8, r13, r15, r16, hL, k7, r7s, k8s, k12, k20, r20s, hSs, k71, k72⟩ := hC
  have hL0 := hL
  obtain ⟨f0, f1, f2, f3, f4, f5, g1, g2, g3, g4, g5⟩ := hL
  show PW X 0 [(0, .ref 0)] [] sh I L R 0 0
  refine pw_aload_n h 0 d_X7_forgetAnswers_0 rfl ?_
  refine pw_iconst (x := (-1)) h d_X7_forgetAnswers_1 (by decide) ?_
  refine pw_putI 7 h d_X7_forgetAnswers_2 fd_RX7_59 (by assumption) rfl rfl rfl rfl ?_
  refine pw_aload_n h 0 d_X7_forgetAnswers_5 rfl ?_
  refine pw_iconst (x := 0) h d_X7_forgetAnswers_6 (by decide) ?_
  refine pw_putI 7 h d_X7_forgetAnswers_7 fd_RX7_79 (by assumption) rfl rfl rfl rfl ?_
  refine pw_vret h hr d_X7_forgetAnswers_10 (by decide) (by decide) ?_
  exact ⟨rfl, rfl, rfl, rfl, rfl⟩

set_option maxHeartbeats 4000000 in
set_option maxRecDepth 100000 in
theorem c_X7_bearing {sh : Sh} {I : IM} {L : LM} {R : RM} (hC : ClassF sh R) {n : Nat} (hn : I 1 0 = nI n) (h6 : n ≤ 6) (p v : Int32) : PMet M_X7_bearing [.ref 0, .int p, .int v] sh I L R (pIf (isW p 0 12 && isW v (-50) 50) (pIf (srch (I 2) p n).isNone (pIf (decide (n < 6)) (pRet (some (.int (nI (cntL (I 2) p n)))) sh (insI (forgI I) n p v) L R) (pRet (some (.int (-3))) sh I L R)) (pRet (some (.int (-2))) sh I L R)) (pRet (some (.int (-1))) sh I L R)) := by
  refine PMet.of mf_X7_bearing (Nat.le_of_ble_eq_true rfl) ?_
  intro X h hr hml
  have hml : (xc X).maxLocals = 3 := hml
  have h : PXok X RX7 cX7_bearing 3 0 0 := h
  have hr : PXr X (some .int) "bearing" _ 0 0 := hr
  have hC0 := hC
  obtain ⟨k0, r0, r1, r2, r4, r5, r6, r7, r8, r13, r15, r16, hL, k7, r7s, k8s, k12, k20, r20s, hSs, k71, k72⟩ := hC
  have hL0 := hL
  obtain ⟨f0, f1, f2, f3, f4, f5, g1, g2, g3, g4, g5⟩ := hL
  show PW X 0 [(0, .ref 0), (1, .int p), (2, .int v)] [] sh I L R 0 0
  refine pw_iload_n h 1 d_X7_bearing_0 rfl ?_
  refine pw_callS (As := [.int _]) h d_X7_bearing_1 mf_X7_isPlace st_yX7_isPlace ml_RX7_93 ⟨by decide, by decide, by decide⟩ rfl rfl (Nat.le_of_ble_eq_true rfl) c_X7_isPlace ?_
  refine PKk.ret ?_
  refine pw_if_eq 18 h d_X7_bearing_4 (by decide) (fun c_4 => ?_) (fun c_4 => ?_)
  · skip
    rw [bI_1] at c_4
    refine pw_iconst (x := (-1)) h d_X7_bearing_18 (by decide) ?_
    refine pw_iret h hr d_X7_bearing_19 rfl (by decide) (by decide) ?_
    first | (refine pIf_f ?_ pRet_self; simp only [isBn, c_4, Bool.and_true, Bool.true_and, Bool.and_false, Bool.false_and]; done) | (refine pIf_f ?_ pRet_self; simp only [isBn, c_4, c_15, Bool.and_true, Bool.true_and, Bool.and_false, Bool.false_and]; done)
  · skip
    rw [bI_1, Bool.not_eq_false] at c_4
    refine pw_iload_n h 2 d_X7_bearing_7 rfl ?_
    refine pw_bipush (x := (-50)) h d_X7_bearing_8 (by decide) ?_
    refine pw_bipush (x := 50) h d_X7_bearing_10 (by decide) ?_
    refine pw_callS (As := [.int _, .int _, .int _]) h d_X7_bearing_12 mf_X7_isWithin st_yX7_isWithin ml_RX7_97 ⟨by decide, by decide, by decide⟩ rfl rfl (Nat.le_of_ble_eq_true rfl) c_X7_isWithin ?_
    refine PKk.ret ?_
    refine pw_if_ne 20 h d_X7_bearing_15 (by decide) (fun c_15 => ?_) (fun c_15 => ?_)
    · skip
      rw [bI_1, Bool.not_eq_false] at c_15
      refine pw_aload_n h 0 d_X7_bearing_20 rfl ?_
      refine pw_getR (j := 1) 7 h d_X7_bearing_21 fd_RX7_12 (by assumption) rfl (by assumption) ?_
      refine pw_iload_n h 1 d_X7_bearing_24 rfl ?_
      refine pw_callV (As := [.int _]) h d_X7_bearing_25 mf_X2_bearingAt mi_X2_bearingAt ml_RX7_101 ⟨by decide, by decide, by decide⟩ (by assumption) rfl rfl (Nat.le_of_ble_eq_true rfl) trivial (c_X2_bearingAt hL0 hn h6 p) ?_
      refine PKk.ret ?_
      refine pw_if_lt 34 h d_X7_bearing_28 (by decide) (fun c_28 => ?_) (fun c_28 => ?_)
      · skip
        refine pw_aload_n h 0 d_X7_bearing_34 rfl ?_
        refine pw_getR (j := 1) 7 h d_X7_bearing_35 fd_RX7_12 (by assumption) rfl (by assumption) ?_
        refine pw_getI 2 h d_X7_bearing_38 fd_RX7_105 (by assumption) rfl ?_
        refine pw_bipush (x := 6) h d_X7_bearing_41 (by decide) ?_
        refine pw_icmp_lt 49 h d_X7_bearing_43 (by decide) (fun c_43 => ?_) (fun c_43 => ?_)
        · skip
          refine pw_aload_n h 0 d_X7_bearing_49 rfl ?_
          refine pw_callV (As := []) h d_X7_bearing_50 mf_X7_forgetAnswers mi_X7_forgetAnswers ml_RX7_108 ⟨by decide, by decide, by decide⟩ (by assumption) rfl rfl (Nat.le_of_ble_eq_true rfl) trivial (c_X7_forgetAnswers hC0) ?_
          refine PKk.ret ?_
          refine pw_aload_n h 0 d_X7_bearing_53 rfl ?_
          refine pw_getR (j := 1) 7 h d_X7_bearing_54 fd_RX7_12 (by assumption) rfl (by assumption) ?_
          refine pw_iload_n h 1 d_X7_bearing_57 rfl ?_
          refine pw_iload_n h 2 d_X7_bearing_58 rfl ?_
          refine pw_callV (As := [.int _, .int _]) h d_X7_bearing_59 mf_X2_insert mi_X2_insert ml_RX7_111 ⟨by decide, by decide, by decide⟩ (by assumption) rfl rfl (Nat.le_of_ble_eq_true rfl) trivial (c_X2_insert hL0 (n := n) (by rw [forgI_at (by decide)]; exact hn) h6 (lt_of_nI6 hn c_43) p v) ?_
          refine PKk.ret ?_
          refine pw_iret h hr d_X7_bearing_62 rfl (by decide) (by decide) ?_
          exact pIf_t (by simp only [c_4, c_15, Bool.and_true]) (pIf_t (by rw [srch_neg (show n < 2 ^ 31 by omega) (show ((-1 : Int32)).toInt < 0 by decide)] at c_28; exact c_28) (pIf_t (decide_eq_true (lt_of_nI6 hn c_43)) pRet_self))
        · skip
          refine pw_bipush (x := (-3)) h d_X7_bearing_46 (by decide) ?_
          refine pw_iret h hr d_X7_bearing_48 rfl (by decide) (by decide) ?_
          exact pIf_t (by simp only [c_4, c_15, Bool.and_true]) (pIf_t (by rw [srch_neg (show n < 2 ^ 31 by omega) (show ((-1 : Int32)).toInt < 0 by decide)] at c_28; exact c_28) (pIf_f (nlt_of_nI6 hn h6 c_43) pRet_self))
      · skip
        refine pw_bipush (x := (-2)) h d_X7_bearing_31 (by decide) ?_
        refine pw_iret h hr d_X7_bearing_33 rfl (by decide) (by decide) ?_
        exact pIf_t (by simp only [c_4, c_15, Bool.and_true]) (pIf_f (by simp only [srch_neg (show n < 2 ^ 31 by omega) (show ((-1 : Int32)).toInt < 0 by decide), Bool.not_eq_true] at c_28; exact c_28) pRet_self)
    · skip
      rw [bI_1] at c_15
      refine pw_iconst (x := (-1)) h d_X7_bearing_18 (by decide) ?_
      refine pw_iret h hr d_X7_bearing_19 rfl (by decide) (by decide) ?_
      first | (refine pIf_f ?_ pRet_self; simp only [isBn, c_4, Bool.and_true, Bool.true_and, Bool.and_false, Bool.false_and]; done) | (refine pIf_f ?_ pRet_self; simp only [isBn, c_4, c_15, Bool.and_true, Bool.true_and, Bool.and_false, Bool.false_and]; done)

set_option maxHeartbeats 4000000 in
set_option maxRecDepth 100000 in
theorem c_X7_remove {sh : Sh} {I : IM} {L : LM} {R : RM} (hC : ClassF sh R) {n : Nat} (hn : I 1 0 = nI n) (h6 : n ≤ 6) (b : Int32) : PMet M_X7_remove [.ref 0, .int b] sh I L R (pIf (isBn n b) (pRet (some (.int (nI (n - 1)))) sh (delI (forgI I) n b.toNatClampNeg) L R) (pRet (some (.int (-1))) sh I L R)) := by
  refine PMet.of mf_X7_remove (Nat.le_of_ble_eq_true rfl) ?_
  intro X h hr hml
  have hml : (xc X).maxLocals = 2 := hml
  have h : PXok X RX7 cX7_remove 3 0 0 := h
  have hr : PXr X (some .int) "remove" _ 0 0 := hr
  have hC0 := hC
  obtain ⟨k0, r0, r1, r2, r4, r5, r6, r7, r8, r13, r15, r16, hL, k7, r7s, k8s, k12, k20, r20s, hSs, k71, k72⟩ := hC
  have hL0 := hL
  obtain ⟨f0, f1, f2, f3, f4, f5, g1, g2, g3, g4, g5⟩ := hL
  show PW X 0 [(0, .ref 0), (1, .int b)] [] sh I L R 0 0
  refine pw_aload_n h 0 d_X7_remove_0 rfl ?_
  refine pw_iload_n h 1 d_X7_remove_1 rfl ?_
  refine pw_callV (As := [.int _]) h d_X7_remove_2 mf_X7_isBearing mi_X7_isBearing ml_RX7_115 ⟨by decide, by decide, by decide⟩ (by assumption) rfl rfl (Nat.le_of_ble_eq_true rfl) trivial (c_X7_isBearing _ (by assumption) (by assumption) (by assumption) hn h6) ?_
  refine PKk.ret ?_
  refine pw_if_ne 10 h d_X7_remove_5 (by decide) (fun c_5 => ?_) (fun c_5 => ?_)
  · skip
    rw [bI_1, Bool.not_eq_false] at c_5
    have hx := isBn_ix (n := n) (N := n) c_5 (Nat.le_refl n)
    refine pw_aload_n h 0 d_X7_remove_10 rfl ?_
    refine pw_callV (As := []) h d_X7_remove_11 mf_X7_forgetAnswers mi_X7_forgetAnswers ml_RX7_108 ⟨by decide, by decide, by decide⟩ (by assumption) rfl rfl (Nat.le_of_ble_eq_true rfl) trivial (c_X7_forgetAnswers hC0) ?_
    refine PKk.ret ?_
    refine pw_aload_n h 0 d_X7_remove_14 rfl ?_
    refine pw_getR (j := 1) 7 h d_X7_remove_15 fd_RX7_12 (by assumption) rfl (by assumption) ?_
    refine pw_iload_n h 1 d_X7_remove_18 rfl ?_
    refine pw_callV (As := [.int _]) h d_X7_remove_19 mf_X2_delete mi_X2_delete ml_RX7_118 ⟨by decide, by decide, by decide⟩ (by assumption) rfl rfl (Nat.le_of_ble_eq_true rfl) trivial (c_X2_delete hL0 (n := n) (by rw [forgI_at (by decide)]; exact hn) h6 (px_ix_lt hx) (px_ix_eq hx)) ?_
    refine PKk.ret ?_
    refine pw_aload_n h 0 d_X7_remove_22 rfl ?_
    refine pw_getR (j := 1) 7 h d_X7_remove_23 fd_RX7_12 (by assumption) rfl (by assumption) ?_
    refine pw_getI 2 h d_X7_remove_26 fd_RX7_105 (by assumption) rfl ?_
    refine pw_iret h hr d_X7_remove_29 rfl (by decide) (by decide) ?_
    rw [u2_s]
    exact pIf_t c_5 pRet_self
  · skip
    rw [bI_1] at c_5
    refine pw_iconst (x := (-1)) h d_X7_remove_8 (by decide) ?_
    refine pw_iret h hr d_X7_remove_9 rfl (by decide) (by decide) ?_
    exact pIf_f c_5 pRet_self

set_option maxHeartbeats 4000000 in
set_option maxRecDepth 100000 in
theorem c_X7_offset {sh : Sh} {I : IM} {L : LM} {R : RM} (hC : ClassF sh R) {n : Nat} (hn : I 1 0 = nI n) (h6 : n ≤ 6) (b v : Int32) : PMet M_X7_offset [.ref 0, .int b, .int v] sh I L R (pIf (isBn n b && isW v (-50) 50) (pRet (some (.int (I 3 b.toNatClampNeg))) sh (u2 (forgI I) 3 b.toNatClampNeg v) L R) (pRet (some (.int (-101))) sh I L R)) := by
  refine PMet.of mf_X7_offset (Nat.le_of_ble_eq_true rfl) ?_
  intro X h hr hml
  have hml : (xc X).maxLocals = 4 := hml
  have h : PXok X RX7 cX7_offset 3 0 0 := h
  have hr : PXr X (some .int) "offset" _ 0 0 := hr
  have hC0 := hC
  obtain ⟨k0, r0, r1, r2, r4, r5, r6, r7, r8, r13, r15, r16, hL, k7, r7s, k8s, k12, k20, r20s, hSs, k71, k72⟩ := hC
  have hL0 := hL
  obtain ⟨f0, f1, f2, f3, f4, f5, g1, g2, g3, g4, g5⟩ := hL
  show PW X 0 [(0, .ref 0), (1, .int b), (2, .int v)] [] sh I L R 0 0
  refine pw_aload_n h 0 d_X7_offset_0 rfl ?_
  refine pw_iload_n h 1 d_X7_offset_1 rfl ?_
  refine pw_callV (As := [.int _]) h d_X7_offset_2 mf_X7_isBearing mi_X7_isBearing ml_RX7_115 ⟨by decide, by decide, by decide⟩ (by assumption) rfl rfl (Nat.le_of_ble_eq_true rfl) trivial (c_X7_isBearing _ (by assumption) (by assumption) (by assumption) hn h6) ?_
  refine PKk.ret ?_
  refine pw_if_eq 19 h d_X7_offset_5 (by decide) (fun c_5 => ?_) (fun c_5 => ?_)
  · skip
    rw [bI_1] at c_5
    refine pw_bipush (x := (-101)) h d_X7_offset_19 (by decide) ?_
    refine pw_iret h hr d_X7_offset_21 rfl (by decide) (by decide) ?_
    first | (refine pIf_f ?_ pRet_self; simp only [isBn, c_5, Bool.and_true, Bool.true_and, Bool.and_false, Bool.false_and]; done) | (refine pIf_f ?_ pRet_self; simp only [isBn, c_5, c_16, Bool.and_true, Bool.true_and, Bool.and_false, Bool.false_and]; done)
  · skip
    rw [bI_1, Bool.not_eq_false] at c_5
    refine pw_iload_n h 2 d_X7_offset_8 rfl ?_
    refine pw_bipush (x := (-50)) h d_X7_offset_9 (by decide) ?_
    refine pw_bipush (x := 50) h d_X7_offset_11 (by decide) ?_
    refine pw_callS (As := [.int _, .int _, .int _]) h d_X7_offset_13 mf_X7_isWithin st_yX7_isWithin ml_RX7_97 ⟨by decide, by decide, by decide⟩ rfl rfl (Nat.le_of_ble_eq_true rfl) c_X7_isWithin ?_
    refine PKk.ret ?_
    refine pw_if_ne 22 h d_X7_offset_16 (by decide) (fun c_16 => ?_) (fun c_16 => ?_)
    · skip
      rw [bI_1, Bool.not_eq_false] at c_16
      have hx := isBn_ix (n := n) (N := 6) c_5 h6
      refine pw_aload_n h 0 d_X7_offset_22 rfl ?_
      refine pw_callV (As := []) h d_X7_offset_23 mf_X7_forgetAnswers mi_X7_forgetAnswers ml_RX7_108 ⟨by decide, by decide, by decide⟩ (by assumption) rfl rfl (Nat.le_of_ble_eq_true rfl) trivial (c_X7_forgetAnswers hC0) ?_
      refine PKk.ret ?_
      refine pw_aload_n h 0 d_X7_offset_26 rfl ?_
      refine pw_getR (j := 1) 7 h d_X7_offset_27 fd_RX7_12 (by assumption) rfl (by assumption) ?_
      refine pw_getR (j := 3) 2 h d_X7_offset_30 fd_RX7_122 (by assumption) rfl (by assumption) ?_
      refine pw_iload_n h 1 d_X7_offset_33 rfl ?_
      refine pw_iald h d_X7_offset_34 (by assumption) (by assumption) ?_
      refine pw_nmI (fun v3_35 e3_35 => ?_)
      refine pw_istore_n (lv' := [(3, .int v3_35), (0, .ref 0), (1, .int b), (2, .int v)]) h d_X7_offset_35 rfl _ hml (by decide) rfl ?_
      refine pw_aload_n h 1 d_X7_offset_36 rfl ?_
      refine pw_getR (j := 1) 7 h d_X7_offset_37 fd_RX7_12 (by assumption) rfl (by assumption) ?_
      refine pw_getR (j := 3) 2 h d_X7_offset_40 fd_RX7_122 (by assumption) rfl (by assumption) ?_
      refine pw_iload_n h 2 d_X7_offset_43 rfl ?_
      refine pw_iload_n h 3 d_X7_offset_44 rfl ?_
      refine pw_iast h d_X7_offset_45 (by assumption) (by assumption) ?_
      refine pw_iload_n h 0 d_X7_offset_46 rfl ?_
      refine pw_iret h hr d_X7_offset_47 rfl (by decide) (by decide) ?_
      rw [e3_35, forgI_at (by decide)]
      exact pIf_t (by simp only [isBn, c_5, c_16, Bool.and_true]) pRet_self
    · skip
      rw [bI_1] at c_16
      refine pw_bipush (x := (-101)) h d_X7_offset_19 (by decide) ?_
      refine pw_iret h hr d_X7_offset_21 rfl (by decide) (by decide) ?_
      first | (refine pIf_f ?_ pRet_self; simp only [isBn, c_5, Bool.and_true, Bool.true_and, Bool.and_false, Bool.false_and]; done) | (refine pIf_f ?_ pRet_self; simp only [isBn, c_5, c_16, Bool.and_true, Bool.true_and, Bool.and_false, Bool.false_and]; done)

set_option maxHeartbeats 4000000 in
set_option maxRecDepth 100000 in
theorem c_X7_weight {sh : Sh} {I : IM} {L : LM} {R : RM} (hC : ClassF sh R) (p v : Int32) : PMet M_X7_weight [.ref 0, .int p, .int v] sh I L R (pIf (isW p 0 12 && isW v 0 50) (pRet (some (.int (I 6 p.toNatClampNeg))) sh (u2 (forgI I) 6 p.toNatClampNeg v) L R) (pRet (some (.int (-1))) sh I L R)) := by
  refine PMet.of mf_X7_weight (Nat.le_of_ble_eq_true rfl) ?_
  intro X h hr hml
  have hml : (xc X).maxLocals = 4 := hml
  have h : PXok X RX7 cX7_weight 3 0 0 := h
  have hr : PXr X (some .int) "weight" _ 0 0 := hr
  have hC0 := hC
  obtain ⟨k0, r0, r1, r2, r4, r5, r6, r7, r8, r13, r15, r16, hL, k7, r7s, k8s, k12, k20, r20s, hSs, k71, k72⟩ := hC
  have hL0 := hL
  obtain ⟨f0, f1, f2, f3, f4, f5, g1, g2, g3, g4, g5⟩ := hL
  show PW X 0 [(0, .ref 0), (1, .int p), (2, .int v)] [] sh I L R 0 0
  refine pw_iload_n h 1 d_X7_weight_0 rfl ?_
  refine pw_callS (As := [.int _]) h d_X7_weight_1 mf_X7_isPlace st_yX7_isPlace ml_RX7_93 ⟨by decide, by decide, by decide⟩ rfl rfl (Nat.le_of_ble_eq_true rfl) c_X7_isPlace ?_
  refine PKk.ret ?_
  refine pw_if_eq 17 h d_X7_weight_4 (by decide) (fun c_4 => ?_) (fun c_4 => ?_)
  · skip
    rw [bI_1] at c_4
    refine pw_iconst (x := (-1)) h d_X7_weight_17 (by decide) ?_
    refine pw_iret h hr d_X7_weight_18 rfl (by decide) (by decide) ?_
    first | (refine pIf_f ?_ pRet_self; simp only [isBn, c_4, Bool.and_true, Bool.true_and, Bool.and_false, Bool.false_and]; done) | (refine pIf_f ?_ pRet_self; simp only [isBn, c_4, c_14, Bool.and_true, Bool.true_and, Bool.and_false, Bool.false_and]; done)
  · skip
    rw [bI_1, Bool.not_eq_false] at c_4
    refine pw_iload_n h 2 d_X7_weight_7 rfl ?_
    refine pw_iconst (x := 0) h d_X7_weight_8 (by decide) ?_
    refine pw_bipush (x := 50) h d_X7_weight_9 (by decide) ?_
    refine pw_callS (As := [.int _, .int _, .int _]) h d_X7_weight_11 mf_X7_isWithin st_yX7_isWithin ml_RX7_97 ⟨by decide, by decide, by decide⟩ rfl rfl (Nat.le_of_ble_eq_true rfl) c_X7_isWithin ?_
    refine PKk.ret ?_
    refine pw_if_ne 19 h d_X7_weight_14 (by decide) (fun c_14 => ?_) (fun c_14 => ?_)
    · skip
      rw [bI_1, Bool.not_eq_false] at c_14
      have hx := isW_ix (N := 13) c_4 rfl (by decide)
      refine pw_aload_n h 0 d_X7_weight_19 rfl ?_
      refine pw_callV (As := []) h d_X7_weight_20 mf_X7_forgetAnswers mi_X7_forgetAnswers ml_RX7_108 ⟨by decide, by decide, by decide⟩ (by assumption) rfl rfl (Nat.le_of_ble_eq_true rfl) trivial (c_X7_forgetAnswers hC0) ?_
      refine PKk.ret ?_
      refine pw_aload_n h 0 d_X7_weight_23 rfl ?_
      refine pw_getR (j := 1) 7 h d_X7_weight_24 fd_RX7_12 (by assumption) rfl (by assumption) ?_
      refine pw_getR (j := 6) 2 h d_X7_weight_27 fd_RX7_126 (by assumption) rfl (by assumption) ?_
      refine pw_iload_n h 1 d_X7_weight_30 rfl ?_
      refine pw_iald h d_X7_weight_31 (by assumption) (by assumption) ?_
      refine pw_nmI (fun v3_32 e3_32 => ?_)
      refine pw_istore_n (lv' := [(3, .int v3_32), (0, .ref 0), (1, .int p), (2, .int v)]) h d_X7_weight_32 rfl _ hml (by decide) rfl ?_
      refine pw_aload_n h 1 d_X7_weight_33 rfl ?_
      refine pw_getR (j := 1) 7 h d_X7_weight_34 fd_RX7_12 (by assumption) rfl (by assumption) ?_
      refine pw_getR (j := 6) 2 h d_X7_weight_37 fd_RX7_126 (by assumption) rfl (by assumption) ?_
      refine pw_iload_n h 2 d_X7_weight_40 rfl ?_
      refine pw_iload_n h 3 d_X7_weight_41 rfl ?_
      refine pw_iast h d_X7_weight_42 (by assumption) (by assumption) ?_
      refine pw_iload_n h 0 d_X7_weight_43 rfl ?_
      refine pw_iret h hr d_X7_weight_44 rfl (by decide) (by decide) ?_
      rw [e3_32, forgI_at (by decide)]
      exact pIf_t (by simp only [c_4, c_14, Bool.and_true]) pRet_self
    · skip
      rw [bI_1] at c_14
      refine pw_iconst (x := (-1)) h d_X7_weight_17 (by decide) ?_
      refine pw_iret h hr d_X7_weight_18 rfl (by decide) (by decide) ?_
      first | (refine pIf_f ?_ pRet_self; simp only [isBn, c_4, Bool.and_true, Bool.true_and, Bool.and_false, Bool.false_and]; done) | (refine pIf_f ?_ pRet_self; simp only [isBn, c_4, c_14, Bool.and_true, Bool.true_and, Bool.and_false, Bool.false_and]; done)

set_option maxHeartbeats 4000000 in
set_option maxRecDepth 100000 in
theorem c_X7_stiffness {sh : Sh} {I : IM} {L : LM} {R : RM} (hC : ClassF sh R) (f : Int32) : PMet M_X7_stiffness [.ref 0, .int f] sh I L R (pIf (isW f 1 20) (pRet (some (.int (I 1 6))) sh (u2 (forgI I) 1 6 f) L R) (pRet (some (.int (-1))) sh I L R)) := by
  refine PMet.of mf_X7_stiffness (Nat.le_of_ble_eq_true rfl) ?_
  intro X h hr hml
  have hml : (xc X).maxLocals = 3 := hml
  have h : PXok X RX7 cX7_stiffness 2 0 0 := h
  have hr : PXr X (some .int) "stiffness" _ 0 0 := hr
  have hC0 := hC
  obtain ⟨k0, r0, r1, r2, r4, r5, r6, r7, r8, r13, r15, r16, hL, k7, r7s, k8s, k12, k20, r20s, hSs, k71, k72⟩ := hC
  have hL0 := hL
  obtain ⟨f0, f1, f2, f3, f4, f5, g1, g2, g3, g4, g5⟩ := hL
  show PW X 0 [(0, .ref 0), (1, .int f)] [] sh I L R 0 0
  refine pw_iload_n h 1 d_X7_stiffness_0 rfl ?_
  refine pw_iconst (x := 1) h d_X7_stiffness_1 (by decide) ?_
  refine pw_bipush (x := 20) h d_X7_stiffness_2 (by decide) ?_
  refine pw_callS (As := [.int _, .int _, .int _]) h d_X7_stiffness_4 mf_X7_isWithin st_yX7_isWithin ml_RX7_97 ⟨by decide, by decide, by decide⟩ rfl rfl (Nat.le_of_ble_eq_true rfl) c_X7_isWithin ?_
  refine PKk.ret ?_
  refine pw_if_ne 12 h d_X7_stiffness_7 (by decide) (fun c_7 => ?_) (fun c_7 => ?_)
  · skip
    rw [bI_1, Bool.not_eq_false] at c_7
    refine pw_aload_n h 0 d_X7_stiffness_12 rfl ?_
    refine pw_callV (As := []) h d_X7_stiffness_13 mf_X7_forgetAnswers mi_X7_forgetAnswers ml_RX7_108 ⟨by decide, by decide, by decide⟩ (by assumption) rfl rfl (Nat.le_of_ble_eq_true rfl) trivial (c_X7_forgetAnswers hC0) ?_
    refine PKk.ret ?_
    refine pw_aload_n h 0 d_X7_stiffness_16 rfl ?_
    refine pw_getR (j := 1) 7 h d_X7_stiffness_17 fd_RX7_12 (by assumption) rfl (by assumption) ?_
    refine pw_getI 2 h d_X7_stiffness_20 fd_RX7_129 (by assumption) rfl ?_
    refine pw_nmI (fun v2_23 e2_23 => ?_)
    refine pw_istore_n (lv' := [(2, .int v2_23), (0, .ref 0), (1, .int f)]) h d_X7_stiffness_23 rfl _ hml (by decide) rfl ?_
    refine pw_aload_n h 1 d_X7_stiffness_24 rfl ?_
    refine pw_getR (j := 1) 7 h d_X7_stiffness_25 fd_RX7_12 (by assumption) rfl (by assumption) ?_
    refine pw_iload_n h 2 d_X7_stiffness_28 rfl ?_
    refine pw_putI 2 h d_X7_stiffness_29 fd_RX7_129 (by assumption) rfl rfl rfl rfl ?_
    refine pw_iload_n h 0 d_X7_stiffness_32 rfl ?_
    refine pw_iret h hr d_X7_stiffness_33 rfl (by decide) (by decide) ?_
    rw [e2_23, forgI_at (by decide)]
    exact pIf_t c_7 pRet_self
  · skip
    rw [bI_1] at c_7
    refine pw_iconst (x := (-1)) h d_X7_stiffness_10 (by decide) ?_
    refine pw_iret h hr d_X7_stiffness_11 rfl (by decide) (by decide) ?_
    exact pIf_f c_7 pRet_self

set_option maxHeartbeats 4000000 in
set_option maxRecDepth 100000 in
theorem c_X7_rise {sh : Sh} {I : IM} {L : LM} {R : RM} (hC : ClassF sh R) (s p v : Int32) : PMet M_X7_rise [.ref 0, .int s, .int p, .int v] sh I L R (pIf (isW s 0 3 && isW p 0 12 && isW v (-20) 20) (pRet (some (.int (I (8 + s.toNatClampNeg) p.toNatClampNeg))) sh (u2 (forgI I) (8 + s.toNatClampNeg) p.toNatClampNeg v) L R) (pRet (some (.int (-101))) sh I L R)) := by
  refine PMet.of mf_X7_rise (Nat.le_of_ble_eq_true rfl) ?_
  intro X h hr hml
  have hml : (xc X).maxLocals = 5 := hml
  have h : PXok X RX7 cX7_rise 3 0 0 := h
  have hr : PXr X (some .int) "rise" _ 0 0 := hr
  have hC0 := hC
  obtain ⟨k0, r0, r1, r2, r4, r5, r6, r7, r8, r13, r15, r16, hL, k7, r7s, k8s, k12, k20, r20s, hSs, k71, k72⟩ := hC
  have hL0 := hL
  obtain ⟨f0, f1, f2, f3, f4, f5, g1, g2, g3, g4, g5⟩ := hL
  show PW X 0 [(0, .ref 0), (1, .int s), (2, .int p), (3, .int v)] [] sh I L R 0 0
  refine pw_iload_n h 1 d_X7_rise_0 rfl ?_
  refine pw_callS (As := [.int _]) h d_X7_rise_1 mf_X7_isState st_yX7_isState ml_RX7_132 ⟨by decide, by decide, by decide⟩ rfl rfl (Nat.le_of_ble_eq_true rfl) c_X7_isState ?_
  refine PKk.ret ?_
  refine pw_if_eq 21 h d_X7_rise_4 (by decide) (fun c_4 => ?_) (fun c_4 => ?_)
  · skip
    rw [bI_1] at c_4
    refine pw_bipush (x := (-101)) h d_X7_rise_21 (by decide) ?_
    refine pw_iret h hr d_X7_rise_23 rfl (by decide) (by decide) ?_
    first | (refine pIf_f ?_ pRet_self; simp only [isBn, c_4, Bool.and_true, Bool.true_and, Bool.and_false, Bool.false_and]; done) | (refine pIf_f ?_ pRet_self; simp only [isBn, c_4, c_11, Bool.and_true, Bool.true_and, Bool.and_false, Bool.false_and]; done) | (refine pIf_f ?_ pRet_self; simp only [isBn, c_4, c_11, c_18, Bool.and_true, Bool.true_and, Bool.and_false, Bool.false_and]; done)
  · skip
    rw [bI_1, Bool.not_eq_false] at c_4
    refine pw_iload_n h 2 d_X7_rise_7 rfl ?_
    refine pw_callS (As := [.int _]) h d_X7_rise_8 mf_X7_isPlace st_yX7_isPlace ml_RX7_93 ⟨by decide, by decide, by decide⟩ rfl rfl (Nat.le_of_ble_eq_true rfl) c_X7_isPlace ?_
    refine PKk.ret ?_
    refine pw_if_eq 21 h d_X7_rise_11 (by decide) (fun c_11 => ?_) (fun c_11 => ?_)
    · skip
      rw [bI_1] at c_11
      refine pw_bipush (x := (-101)) h d_X7_rise_21 (by decide) ?_
      refine pw_iret h hr d_X7_rise_23 rfl (by decide) (by decide) ?_
      first | (refine pIf_f ?_ pRet_self; simp only [isBn, c_4, Bool.and_true, Bool.true_and, Bool.and_false, Bool.false_and]; done) | (refine pIf_f ?_ pRet_self; simp only [isBn, c_4, c_11, Bool.and_true, Bool.true_and, Bool.and_false, Bool.false_and]; done) | (refine pIf_f ?_ pRet_self; simp only [isBn, c_4, c_11, c_18, Bool.and_true, Bool.true_and, Bool.and_false, Bool.false_and]; done)
    · skip
      rw [bI_1, Bool.not_eq_false] at c_11
      refine pw_iload_n h 3 d_X7_rise_14 rfl ?_
      refine pw_callS (As := [.int _]) h d_X7_rise_15 mf_X7_isRise st_yX7_isRise ml_RX7_135 ⟨by decide, by decide, by decide⟩ rfl rfl (Nat.le_of_ble_eq_true rfl) c_X7_isRise ?_
      refine PKk.ret ?_
      refine pw_if_ne 24 h d_X7_rise_18 (by decide) (fun c_18 => ?_) (fun c_18 => ?_)
      · skip
        rw [bI_1, Bool.not_eq_false] at c_18
        have hx := isW_ix (N := 4) c_4 rfl (by decide)
        have hy := isW_ix (N := 13) c_11 rfl (by decide)
        have hz := r7s _ (px_ix_lt hx)
        have hq := k8s _ (px_ix_lt hx)
        refine pw_aload_n h 0 d_X7_rise_24 rfl ?_
        refine pw_callV (As := []) h d_X7_rise_25 mf_X7_forgetAnswers mi_X7_forgetAnswers ml_RX7_108 ⟨by decide, by decide, by decide⟩ (by assumption) rfl rfl (Nat.le_of_ble_eq_true rfl) trivial (c_X7_forgetAnswers hC0) ?_
        refine PKk.ret ?_
        refine pw_aload_n h 0 d_X7_rise_28 rfl ?_
        refine pw_getR (j := 7) 7 h d_X7_rise_29 fd_RX7_18 (by assumption) rfl (by assumption) ?_
        refine pw_iload_n h 1 d_X7_rise_32 rfl ?_
        refine pw_aald (z := (8 + s.toNatClampNeg)) h d_X7_rise_33 (by assumption) rfl rfl (t0 := 4) (fun _ => rfl) (by assumption) (by assumption) ?_
        refine pw_iload_n h 2 d_X7_rise_34 rfl ?_
        refine pw_iald h d_X7_rise_35 (by assumption) (by assumption) ?_
        refine pw_nmI (fun v4_36 e4_36 => ?_)
        refine pw_istore (lv' := [(4, .int v4_36), (0, .ref 0), (1, .int s), (2, .int p), (3, .int v)]) h d_X7_rise_36 _ hml (by decide) rfl ?_
        refine pw_aload_n h 1 d_X7_rise_38 rfl ?_
        refine pw_getR (j := 7) 7 h d_X7_rise_39 fd_RX7_18 (by assumption) rfl (by assumption) ?_
        refine pw_iload_n h 2 d_X7_rise_42 rfl ?_
        refine pw_aald (z := (8 + s.toNatClampNeg)) h d_X7_rise_43 (by assumption) rfl rfl (t0 := 4) (fun _ => rfl) (by assumption) (by assumption) ?_
        refine pw_iload_n h 3 d_X7_rise_44 rfl ?_
        refine pw_iload_n h 4 d_X7_rise_45 rfl ?_
        refine pw_iast h d_X7_rise_46 (by assumption) (by assumption) ?_
        refine pw_iload h 0 d_X7_rise_47 rfl ?_
        refine pw_iret h hr d_X7_rise_49 rfl (by decide) (by decide) ?_
        rw [e4_36, forgI_at (by omega)]
        exact pIf_t (by simp only [c_4, c_11, c_18, Bool.and_true]) pRet_self
      · skip
        rw [bI_1] at c_18
        refine pw_bipush (x := (-101)) h d_X7_rise_21 (by decide) ?_
        refine pw_iret h hr d_X7_rise_23 rfl (by decide) (by decide) ?_
        first | (refine pIf_f ?_ pRet_self; simp only [isBn, c_4, Bool.and_true, Bool.true_and, Bool.and_false, Bool.false_and]; done) | (refine pIf_f ?_ pRet_self; simp only [isBn, c_4, c_11, Bool.and_true, Bool.true_and, Bool.and_false, Bool.false_and]; done) | (refine pIf_f ?_ pRet_self; simp only [isBn, c_4, c_11, c_18, Bool.and_true, Bool.true_and, Bool.and_false, Bool.false_and]; done)

set_option maxHeartbeats 4000000 in
set_option maxRecDepth 100000 in
theorem c_X7_reading {sh : Sh} {I : IM} {L : LM} {R : RM} (hC : ClassF sh R) {n : Nat} (hn : I 1 0 = nI n) (h6 : n ≤ 6) (b v : Int32) : PMet M_X7_reading [.ref 0, .int b, .int v] sh I L R (pIf (isBn n b && isW v 0 600) (pRet (some (.int (I 5 b.toNatClampNeg))) sh (u2 I 5 b.toNatClampNeg v) L R) (pRet (some (.int (-1))) sh I L R)) := by
  refine PMet.of mf_X7_reading (Nat.le_of_ble_eq_true rfl) ?_
  intro X h hr hml
  have hml : (xc X).maxLocals = 4 := hml
  have h : PXok X RX7 cX7_reading 3 0 0 := h
  have hr : PXr X (some .int) "reading" _ 0 0 := hr
  have hC0 := hC
  obtain ⟨k0, r0, r1, r2, r4, r5, r6, r7, r8, r13, r15, r16, hL, k7, r7s, k8s, k12, k20, r20s, hSs, k71, k72⟩ := hC
  have hL0 := hL
  obtain ⟨f0, f1, f2, f3, f4, f5, g1, g2, g3, g4, g5⟩ := hL
  show PW X 0 [(0, .ref 0), (1, .int b), (2, .int v)] [] sh I L R 0 0
  refine pw_aload_n h 0 d_X7_reading_0 rfl ?_
  refine pw_iload_n h 1 d_X7_reading_1 rfl ?_
  refine pw_callV (As := [.int _]) h d_X7_reading_2 mf_X7_isBearing mi_X7_isBearing ml_RX7_115 ⟨by decide, by decide, by decide⟩ (by assumption) rfl rfl (Nat.le_of_ble_eq_true rfl) trivial (c_X7_isBearing _ (by assumption) (by assumption) (by assumption) hn h6) ?_
  refine PKk.ret ?_
  refine pw_if_eq 19 h d_X7_reading_5 (by decide) (fun c_5 => ?_) (fun c_5 => ?_)
  · skip
    rw [bI_1] at c_5
    refine pw_iconst (x := (-1)) h d_X7_reading_19 (by decide) ?_
    refine pw_iret h hr d_X7_reading_20 rfl (by decide) (by decide) ?_
    first | (refine pIf_f ?_ pRet_self; simp only [isBn, c_5, Bool.and_true, Bool.true_and, Bool.and_false, Bool.false_and]; done) | (refine pIf_f ?_ pRet_self; simp only [isBn, c_5, c_16, Bool.and_true, Bool.true_and, Bool.and_false, Bool.false_and]; done)
  · skip
    rw [bI_1, Bool.not_eq_false] at c_5
    refine pw_iload_n h 2 d_X7_reading_8 rfl ?_
    refine pw_iconst (x := 0) h d_X7_reading_9 (by decide) ?_
    refine pw_sipush (x := 600) h d_X7_reading_10 (by decide) ?_
    refine pw_callS (As := [.int _, .int _, .int _]) h d_X7_reading_13 mf_X7_isWithin st_yX7_isWithin ml_RX7_97 ⟨by decide, by decide, by decide⟩ rfl rfl (Nat.le_of_ble_eq_true rfl) c_X7_isWithin ?_
    refine PKk.ret ?_
    refine pw_if_ne 21 h d_X7_reading_16 (by decide) (fun c_16 => ?_) (fun c_16 => ?_)
    · skip
      rw [bI_1, Bool.not_eq_false] at c_16
      have hx := isBn_ix (n := n) (N := 6) c_5 h6
      refine pw_aload_n h 0 d_X7_reading_21 rfl ?_
      refine pw_getR (j := 1) 7 h d_X7_reading_22 fd_RX7_12 (by assumption) rfl (by assumption) ?_
      refine pw_getR (j := 5) 2 h d_X7_reading_25 fd_RX7_172 (by assumption) rfl (by assumption) ?_
      refine pw_iload_n h 1 d_X7_reading_28 rfl ?_
      refine pw_iald h d_X7_reading_29 (by assumption) (by assumption) ?_
      refine pw_nmI (fun v3_30 e3_30 => ?_)
      refine pw_istore_n (lv' := [(3, .int v3_30), (0, .ref 0), (1, .int b), (2, .int v)]) h d_X7_reading_30 rfl _ hml (by decide) rfl ?_
      refine pw_aload_n h 1 d_X7_reading_31 rfl ?_
      refine pw_getR (j := 1) 7 h d_X7_reading_32 fd_RX7_12 (by assumption) rfl (by assumption) ?_
      refine pw_getR (j := 5) 2 h d_X7_reading_35 fd_RX7_172 (by assumption) rfl (by assumption) ?_
      refine pw_iload_n h 2 d_X7_reading_38 rfl ?_
      refine pw_iload_n h 3 d_X7_reading_39 rfl ?_
      refine pw_iast h d_X7_reading_40 (by assumption) (by assumption) ?_
      refine pw_iload_n h 0 d_X7_reading_41 rfl ?_
      refine pw_iret h hr d_X7_reading_42 rfl (by decide) (by decide) ?_
      rw [e3_30]
      exact pIf_t (by simp only [isBn, c_5, c_16, Bool.and_true]) pRet_self
    · skip
      rw [bI_1] at c_16
      refine pw_iconst (x := (-1)) h d_X7_reading_19 (by decide) ?_
      refine pw_iret h hr d_X7_reading_20 rfl (by decide) (by decide) ?_
      first | (refine pIf_f ?_ pRet_self; simp only [isBn, c_5, Bool.and_true, Bool.true_and, Bool.and_false, Bool.false_and]; done) | (refine pIf_f ?_ pRet_self; simp only [isBn, c_5, c_16, Bool.and_true, Bool.true_and, Bool.and_false, Bool.false_and]; done)

set_option maxHeartbeats 4000000 in
set_option maxRecDepth 100000 in
theorem c_X7_mended {sh : Sh} {I : IM} {L : LM} {R : RM} (hC : ClassF sh R) {n : Nat} (hn : I 1 0 = nI n) (h6 : n ≤ 6) (b : Int32) : PMet M_X7_mended [.ref 0, .int b] sh I L R (pIf (isBn n b) (pIf (wrongB (missI (sumI (I 6) 13) (I 5) n) (missM (momI (I 6) 13) (I 2) (I 5) n) (I 2 b.toNatClampNeg)) (pRet (some (.int (I 5 b.toNatClampNeg + missI (sumI (I 6) 13) (I 5) n))) sh I L R) (pRet (some (.int (-4))) sh I L R)) (pRet (some (.int (-1))) sh I L R)) := by
  refine PMet.of mf_X7_mended (Nat.le_of_ble_eq_true rfl) ?_
  intro X h hr hml
  have hml : (xc X).maxLocals = 2 := hml
  have h : PXok X RX7 cX7_mended 4 0 0 := h
  have hr : PXr X (some .int) "mended" _ 0 0 := hr
  have hC0 := hC
  obtain ⟨k0, r0, r1, r2, r4, r5, r6, r7, r8, r13, r15, r16, hL, k7, r7s, k8s, k12, k20, r20s, hSs, k71, k72⟩ := hC
  have hL0 := hL
  obtain ⟨f0, f1, f2, f3, f4, f5, g1, g2, g3, g4, g5⟩ := hL
  show PW X 0 [(0, .ref 0), (1, .int b)] [] sh I L R 0 0
  refine pw_aload_n h 0 d_X7_mended_0 rfl ?_
  refine pw_iload_n h 1 d_X7_mended_1 rfl ?_
  refine pw_callV (As := [.int _]) h d_X7_mended_2 mf_X7_isBearing mi_X7_isBearing ml_RX7_115 ⟨by decide, by decide, by decide⟩ (by assumption) rfl rfl (Nat.le_of_ble_eq_true rfl) trivial (c_X7_isBearing _ (by assumption) (by assumption) (by assumption) hn h6) ?_
  refine PKk.ret ?_
  refine pw_if_ne 10 h d_X7_mended_5 (by decide) (fun c_5 => ?_) (fun c_5 => ?_)
  · skip
    rw [bI_1, Bool.not_eq_false] at c_5
    have hx := isBn_ix (n := n) (N := 6) c_5 h6
    refine pw_aload_n h 0 d_X7_mended_10 rfl ?_
    refine pw_getR (j := 1) 7 h d_X7_mended_11 fd_RX7_12 (by assumption) rfl (by assumption) ?_
    refine pw_iload_n h 1 d_X7_mended_14 rfl ?_
    refine pw_callV (As := [.int _]) h d_X7_mended_15 mf_X2_isWrong mi_X2_isWrong ml_RX7_279 ⟨by decide, by decide, by decide⟩ (by assumption) rfl rfl (Nat.le_of_ble_eq_true rfl) trivial (c_X2_isWrong hL0 hn h6 (px_ix_eq hx) (px_ix_lt hx)) ?_
    refine PKk.ret ?_
    refine pw_if_ne 24 h d_X7_mended_18 (by decide) (fun c_18 => ?_) (fun c_18 => ?_)
    · skip
      rw [bI_1, Bool.not_eq_false] at c_18
      refine pw_aload_n h 0 d_X7_mended_24 rfl ?_
      refine pw_getR (j := 1) 7 h d_X7_mended_25 fd_RX7_12 (by assumption) rfl (by assumption) ?_
      refine pw_getR (j := 5) 2 h d_X7_mended_28 fd_RX7_172 (by assumption) rfl (by assumption) ?_
      refine pw_iload_n h 1 d_X7_mended_31 rfl ?_
      refine pw_iald h d_X7_mended_32 (by assumption) (by assumption) ?_
      refine pw_aload_n h 0 d_X7_mended_33 rfl ?_
      refine pw_getR (j := 1) 7 h d_X7_mended_34 fd_RX7_12 (by assumption) rfl (by assumption) ?_
      refine pw_callV (As := []) h d_X7_mended_37 mf_X2_missing mi_X2_missing ml_RX7_273 ⟨by decide, by decide, by decide⟩ (by assumption) rfl rfl (Nat.le_of_ble_eq_true rfl) trivial (c_X2_missing hL0 hn h6) ?_
      refine PKk.ret ?_
      refine pw_iadd h d_X7_mended_40 ?_
      refine pw_iret h hr d_X7_mended_41 rfl (by decide) (by decide) ?_
      exact pIf_t c_5 (pIf_t c_18 pRet_self)
    · skip
      rw [bI_1] at c_18
      refine pw_bipush (x := (-4)) h d_X7_mended_21 (by decide) ?_
      refine pw_iret h hr d_X7_mended_23 rfl (by decide) (by decide) ?_
      exact pIf_t c_5 (pIf_f c_18 pRet_self)
  · skip
    rw [bI_1] at c_5
    refine pw_iconst (x := (-1)) h d_X7_mended_8 (by decide) ?_
    refine pw_iret h hr d_X7_mended_9 rfl (by decide) (by decide) ?_
    exact pIf_f c_5 pRet_self

set_option maxHeartbeats 4000000 in
set_option maxRecDepth 100000 in
theorem c_X7_bounds {sh : Sh} {I : IM} {L : LM} {R : RM} (hC : ClassF sh R) (a b : Int32) : PMet M_X7_bounds [.ref 0, .int a, .int b] sh I L R (pIf (isW a 0 600 && isW b a 600) (pRet (some (.int 1)) sh (u2 (u2 (forgI I) 0 11 a) 0 12 b) L R) (pRet (some (.int (-1))) sh I L R)) := by
  refine PMet.of mf_X7_bounds (Nat.le_of_ble_eq_true rfl) ?_
  intro X h hr hml
  have hml : (xc X).maxLocals = 3 := hml
  have h : PXok X RX7 cX7_bounds 2 0 0 := h
  have hr : PXr X (some .int) "bounds" _ 0 0 := hr
  have hC0 := hC
  obtain ⟨k0, r0, r1, r2, r4, r5, r6, r7, r8, r13, r15, r16, hL, k7, r7s, k8s, k12, k20, r20s, hSs, k71, k72⟩ := hC
  have hL0 := hL
  obtain ⟨f0, f1, f2, f3, f4, f5, g1, g2, g3, g4, g5⟩ := hL
  show PW X 0 [(0, .ref 0), (1, .int a), (2, .int b)] [] sh I L R 0 0
  refine pw_iload_n h 1 d_X7_bounds_0 rfl ?_
  refine pw_iconst (x := 0) h d_X7_bounds_1 (by decide) ?_
  refine pw_sipush (x := 600) h d_X7_bounds_2 (by decide) ?_
  refine pw_callS (As := [.int _, .int _, .int _]) h d_X7_bounds_5 mf_X7_isWithin st_yX7_isWithin ml_RX7_97 ⟨by decide, by decide, by decide⟩ rfl rfl (Nat.le_of_ble_eq_true rfl) c_X7_isWithin ?_
  refine PKk.ret ?_
  refine pw_if_eq 22 h d_X7_bounds_8 (by decide) (fun c_8 => ?_) (fun c_8 => ?_)
  · skip
    rw [bI_1] at c_8
    refine pw_iconst (x := (-1)) h d_X7_bounds_22 (by decide) ?_
    refine pw_iret h hr d_X7_bounds_23 rfl (by decide) (by decide) ?_
    first | (refine pIf_f ?_ pRet_self; simp only [isBn, c_8, Bool.and_true, Bool.true_and, Bool.and_false, Bool.false_and]; done) | (refine pIf_f ?_ pRet_self; simp only [isBn, c_8, c_19, Bool.and_true, Bool.true_and, Bool.and_false, Bool.false_and]; done)
  · skip
    rw [bI_1, Bool.not_eq_false] at c_8
    refine pw_iload_n h 2 d_X7_bounds_11 rfl ?_
    refine pw_iload_n h 1 d_X7_bounds_12 rfl ?_
    refine pw_sipush (x := 600) h d_X7_bounds_13 (by decide) ?_
    refine pw_callS (As := [.int _, .int _, .int _]) h d_X7_bounds_16 mf_X7_isWithin st_yX7_isWithin ml_RX7_97 ⟨by decide, by decide, by decide⟩ rfl rfl (Nat.le_of_ble_eq_true rfl) c_X7_isWithin ?_
    refine PKk.ret ?_
    refine pw_if_ne 24 h d_X7_bounds_19 (by decide) (fun c_19 => ?_) (fun c_19 => ?_)
    · skip
      rw [bI_1, Bool.not_eq_false] at c_19
      refine pw_aload_n h 0 d_X7_bounds_24 rfl ?_
      refine pw_callV (As := []) h d_X7_bounds_25 mf_X7_forgetAnswers mi_X7_forgetAnswers ml_RX7_108 ⟨by decide, by decide, by decide⟩ (by assumption) rfl rfl (Nat.le_of_ble_eq_true rfl) trivial (c_X7_forgetAnswers hC0) ?_
      refine PKk.ret ?_
      refine pw_aload_n h 0 d_X7_bounds_28 rfl ?_
      refine pw_iload_n h 1 d_X7_bounds_29 rfl ?_
      refine pw_putI 7 h d_X7_bounds_30 fd_RX7_66 (by assumption) rfl rfl rfl rfl ?_
      refine pw_aload_n h 0 d_X7_bounds_33 rfl ?_
      refine pw_iload_n h 2 d_X7_bounds_34 rfl ?_
      refine pw_putI 7 h d_X7_bounds_35 fd_RX7_69 (by assumption) rfl rfl rfl rfl ?_
      refine pw_iconst (x := 1) h d_X7_bounds_38 (by decide) ?_
      refine pw_iret h hr d_X7_bounds_39 rfl (by decide) (by decide) ?_
      exact pIf_t (by simp only [c_8, c_19, Bool.and_true]) pRet_self
    · skip
      rw [bI_1] at c_19
      refine pw_iconst (x := (-1)) h d_X7_bounds_22 (by decide) ?_
      refine pw_iret h hr d_X7_bounds_23 rfl (by decide) (by decide) ?_
      first | (refine pIf_f ?_ pRet_self; simp only [isBn, c_8, Bool.and_true, Bool.true_and, Bool.and_false, Bool.false_and]; done) | (refine pIf_f ?_ pRet_self; simp only [isBn, c_8, c_19, Bool.and_true, Bool.true_and, Bool.and_false, Bool.false_and]; done)
