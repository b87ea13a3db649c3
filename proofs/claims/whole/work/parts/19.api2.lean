set_option maxHeartbeats 4000000 in
set_option maxRecDepth 100000 in
theorem c_X8_weight {sh : Sh} {I : IM} {L : LM} {R : RM} {m n : Nat} (hM : ModF sh R m) (hn : I m 0 = nI n) (h6 : n ≤ 6) (p v : Int32) : PMet M_X8_weight [.ref m, .int p, .int v] sh I L R (pIf (isW p 0 12 && isW v 0 50) (pRet (some (.int (I (m + 5) p.toNatClampNeg))) sh (u2 I (m + 5) p.toNatClampNeg v) L R) (pRet (some (.int (-1))) sh I L R)) := by
  refine PMet.of mf_X8_weight (Nat.le_of_ble_eq_true rfl) ?_
  intro X h hr hml
  have hml : (xc X).maxLocals = 4 := hml
  have h : PXok X RX8 cX8_weight 3 0 0 := h
  have hr : PXr X (some .int) "weight" _ 0 0 := hr
  have hM0 := hM
  obtain ⟨f0, f1, f2, f3, f4, f5, f6, f7, f8, f9, f10, f11, f12, f13, f14, f15, f16, f17, f18, f19, f20, f21, f22, f23, f24, f25, f26, f27, g1, g2, g3, g4, g5, g6, g7, g8, g9, g10, g11, g12, g13, g14, g15, g16, g17, g18, g19, g20, g21, g22, g23, g24, g25, g26, g27⟩ := hM
  show PW X 0 [(0, .ref m), (1, .int p), (2, .int v)] [] sh I L R 0 0
  refine pw_iload_n h 1 d_X8_weight_0 rfl ?_
  refine pw_callS (As := [.int _]) h d_X8_weight_1 mf_X8_isPlace st_yX8_isPlace ml_RX8_112 ⟨by decide, by decide, by decide⟩ rfl rfl (Nat.le_of_ble_eq_true rfl) c_X8_isPlace ?_
  refine PKk.ret ?_
  refine pw_if_eq 19 h d_X8_weight_4 (by decide) (fun c_4 => ?_) (fun c_4 => ?_)
  · skip
    rw [bI_1] at c_4
    refine pw_iconst (x := (-1)) h d_X8_weight_19 (by decide) ?_
    refine pw_iret h hr d_X8_weight_20 rfl (by decide) (by decide) ?_
    first | (refine pIf_f ?_ pRet_self; simp only [isBn, c_4, Bool.and_true, Bool.true_and, Bool.and_false, Bool.false_and]; done) | (refine pIf_f ?_ pRet_self; simp only [isBn, c_4, c_16, Bool.and_true, Bool.true_and, Bool.and_false, Bool.false_and]; done)
  · skip
    rw [bI_1, Bool.not_eq_false] at c_4
    refine pw_iload_n h 2 d_X8_weight_7 rfl ?_
    refine pw_i2l h d_X8_weight_8 ?_
    refine pw_lconst (x := 0) h d_X8_weight_9 (by decide) ?_
    refine pw_ldc2 h d_X8_weight_10 ck_RX8_118 ?_
    refine pw_callS (As := [.long _, .long _, .long _]) h d_X8_weight_13 mf_X8_in st_yX8_in ml_RX8_105 ⟨by decide, by decide, by decide⟩ rfl rfl (Nat.le_of_ble_eq_true rfl) (c_X8_inW (a := 0) (b := 50) rfl rfl) ?_
    refine PKk.ret ?_
    refine pw_if_ne 21 h d_X8_weight_16 (by decide) (fun c_16 => ?_) (fun c_16 => ?_)
    · skip
      rw [bI_1, Bool.not_eq_false] at c_16
      have hx := isW_ix (N := 13) c_4 rfl (by decide)
      refine pw_aload_n h 0 d_X8_weight_21 rfl ?_
      refine pw_getR (j := (m + 5)) 8 h d_X8_weight_22 fd_RX8_22 (by assumption) rfl (by assumption) ?_
      refine pw_iload_n h 1 d_X8_weight_25 rfl ?_
      refine pw_iald h d_X8_weight_26 (by assumption) (by assumption) ?_
      refine pw_nmI (fun v3_27 e3_27 => ?_)
      refine pw_istore_n (lv' := [(3, .int v3_27), (0, .ref m), (1, .int p), (2, .int v)]) h d_X8_weight_27 rfl _ hml (by decide) rfl ?_
      refine pw_aload_n h 1 d_X8_weight_28 rfl ?_
      refine pw_getR (j := (m + 5)) 8 h d_X8_weight_29 fd_RX8_22 (by assumption) rfl (by assumption) ?_
      refine pw_iload_n h 2 d_X8_weight_32 rfl ?_
      refine pw_iload_n h 3 d_X8_weight_33 rfl ?_
      refine pw_iast h d_X8_weight_34 (by assumption) (by assumption) ?_
      refine pw_iload_n h 0 d_X8_weight_35 rfl ?_
      refine pw_iret h hr d_X8_weight_36 rfl (by decide) (by decide) ?_
      rw [e3_27]
      exact pIf_t (by simp only [isBn, c_4, c_16, Bool.and_true, Bool.true_and, Bool.and_false, Bool.false_and]) pRet_self
    · skip
      rw [bI_1] at c_16
      refine pw_iconst (x := (-1)) h d_X8_weight_19 (by decide) ?_
      refine pw_iret h hr d_X8_weight_20 rfl (by decide) (by decide) ?_
      first | (refine pIf_f ?_ pRet_self; simp only [isBn, c_4, Bool.and_true, Bool.true_and, Bool.and_false, Bool.false_and]; done) | (refine pIf_f ?_ pRet_self; simp only [isBn, c_4, c_16, Bool.and_true, Bool.true_and, Bool.and_false, Bool.false_and]; done)

set_option maxHeartbeats 4000000 in
set_option maxRecDepth 100000 in
theorem c_X8_stiffness {sh : Sh} {I : IM} {L : LM} {R : RM} {m n : Nat} (hM : ModF sh R m) (hn : I m 0 = nI n) (h6 : n ≤ 6) (f : Int32) : PMet M_X8_stiffness [.ref m, .int f] sh I L R (pIf (isW f 1 20) (pRet (some (.int (I m 7))) sh (u2 I m 7 f) L R) (pRet (some (.int (-1))) sh I L R)) := by
  refine PMet.of mf_X8_stiffness (Nat.le_of_ble_eq_true rfl) ?_
  intro X h hr hml
  have hml : (xc X).maxLocals = 3 := hml
  have h : PXok X RX8 cX8_stiffness 2 0 0 := h
  have hr : PXr X (some .int) "stiffness" _ 0 0 := hr
  have hM0 := hM
  obtain ⟨f0, f1, f2, f3, f4, f5, f6, f7, f8, f9, f10, f11, f12, f13, f14, f15, f16, f17, f18, f19, f20, f21, f22, f23, f24, f25, f26, f27, g1, g2, g3, g4, g5, g6, g7, g8, g9, g10, g11, g12, g13, g14, g15, g16, g17, g18, g19, g20, g21, g22, g23, g24, g25, g26, g27⟩ := hM
  show PW X 0 [(0, .ref m), (1, .int f)] [] sh I L R 0 0
  refine pw_iload_n h 1 d_X8_stiffness_0 rfl ?_
  refine pw_i2l h d_X8_stiffness_1 ?_
  refine pw_lconst (x := 1) h d_X8_stiffness_2 (by decide) ?_
  refine pw_ldc2 h d_X8_stiffness_3 ck_RX8_131 ?_
  refine pw_callS (As := [.long _, .long _, .long _]) h d_X8_stiffness_6 mf_X8_in st_yX8_in ml_RX8_105 ⟨by decide, by decide, by decide⟩ rfl rfl (Nat.le_of_ble_eq_true rfl) (c_X8_inW (a := 1) (b := 20) rfl rfl) ?_
  refine PKk.ret ?_
  refine pw_if_ne 14 h d_X8_stiffness_9 (by decide) (fun c_9 => ?_) (fun c_9 => ?_)
  · skip
    rw [bI_1, Bool.not_eq_false] at c_9
    refine pw_aload_n h 0 d_X8_stiffness_14 rfl ?_
    refine pw_getI 8 h d_X8_stiffness_15 fd_RX8_28 (by assumption) rfl ?_
    refine pw_nmI (fun v2_18 e2_18 => ?_)
    refine pw_istore_n (lv' := [(2, .int v2_18), (0, .ref m), (1, .int f)]) h d_X8_stiffness_18 rfl _ hml (by decide) rfl ?_
    refine pw_aload_n h 1 d_X8_stiffness_19 rfl ?_
    refine pw_iload_n h 2 d_X8_stiffness_20 rfl ?_
    refine pw_putI 8 h d_X8_stiffness_21 fd_RX8_28 (by assumption) rfl rfl rfl rfl ?_
    refine pw_iload_n h 0 d_X8_stiffness_24 rfl ?_
    refine pw_iret h hr d_X8_stiffness_25 rfl (by decide) (by decide) ?_
    rw [e2_18]
    exact pIf_t c_9 pRet_self
  · skip
    rw [bI_1] at c_9
    refine pw_iconst (x := (-1)) h d_X8_stiffness_12 (by decide) ?_
    refine pw_iret h hr d_X8_stiffness_13 rfl (by decide) (by decide) ?_
    exact pIf_f c_9 pRet_self

set_option maxHeartbeats 4000000 in
set_option maxRecDepth 100000 in
theorem c_X8_rise {sh : Sh} {I : IM} {L : LM} {R : RM} {m n : Nat} (hM : ModF sh R m) (hn : I m 0 = nI n) (h6 : n ≤ 6) (s p v : Int32) : PMet M_X8_rise [.ref m, .int s, .int p, .int v] sh I L R (pIf (isW s 0 3 && isW p 0 12 && isW v (-20) 20) (pRet (some (.int (I (m + 6) (13 * s.toNatClampNeg + p.toNatClampNeg)))) sh (u2 I (m + 6) (13 * s.toNatClampNeg + p.toNatClampNeg) v) L R) (pRet (some (.int (-101))) sh I L R)) := by
  refine PMet.of mf_X8_rise (Nat.le_of_ble_eq_true rfl) ?_
  intro X h hr hml
  have hml : (xc X).maxLocals = 5 := hml
  have h : PXok X RX8 cX8_rise 3 0 0 := h
  have hr : PXr X (some .int) "rise" _ 0 0 := hr
  have hM0 := hM
  obtain ⟨f0, f1, f2, f3, f4, f5, f6, f7, f8, f9, f10, f11, f12, f13, f14, f15, f16, f17, f18, f19, f20, f21, f22, f23, f24, f25, f26, f27, g1, g2, g3, g4, g5, g6, g7, g8, g9, g10, g11, g12, g13, g14, g15, g16, g17, g18, g19, g20, g21, g22, g23, g24, g25, g26, g27⟩ := hM
  show PW X 0 [(0, .ref m), (1, .int s), (2, .int p), (3, .int v)] [] sh I L R 0 0
  refine pw_iload_n h 1 d_X8_rise_0 rfl ?_
  refine pw_callS (As := [.int _]) h d_X8_rise_1 mf_X8_isState st_yX8_isState ml_RX8_135 ⟨by decide, by decide, by decide⟩ rfl rfl (Nat.le_of_ble_eq_true rfl) c_X8_isState ?_
  refine PKk.ret ?_
  refine pw_if_eq 28 h d_X8_rise_4 (by decide) (fun c_4 => ?_) (fun c_4 => ?_)
  · skip
    rw [bI_1] at c_4
    refine pw_bipush (x := (-101)) h d_X8_rise_28 (by decide) ?_
    refine pw_iret h hr d_X8_rise_30 rfl (by decide) (by decide) ?_
    first | (refine pIf_f ?_ pRet_self; simp only [isBn, c_4, Bool.and_true, Bool.true_and, Bool.and_false, Bool.false_and]; done) | (refine pIf_f ?_ pRet_self; simp only [isBn, c_4, c_11, Bool.and_true, Bool.true_and, Bool.and_false, Bool.false_and]; done) | (refine pIf_f ?_ pRet_self; simp only [isBn, c_4, c_11, c_25, Bool.and_true, Bool.true_and, Bool.and_false, Bool.false_and]; done)
  · skip
    rw [bI_1, Bool.not_eq_false] at c_4
    refine pw_iload_n h 2 d_X8_rise_7 rfl ?_
    refine pw_callS (As := [.int _]) h d_X8_rise_8 mf_X8_isPlace st_yX8_isPlace ml_RX8_112 ⟨by decide, by decide, by decide⟩ rfl rfl (Nat.le_of_ble_eq_true rfl) c_X8_isPlace ?_
    refine PKk.ret ?_
    refine pw_if_eq 28 h d_X8_rise_11 (by decide) (fun c_11 => ?_) (fun c_11 => ?_)
    · skip
      rw [bI_1] at c_11
      refine pw_bipush (x := (-101)) h d_X8_rise_28 (by decide) ?_
      refine pw_iret h hr d_X8_rise_30 rfl (by decide) (by decide) ?_
      first | (refine pIf_f ?_ pRet_self; simp only [isBn, c_4, Bool.and_true, Bool.true_and, Bool.and_false, Bool.false_and]; done) | (refine pIf_f ?_ pRet_self; simp only [isBn, c_4, c_11, Bool.and_true, Bool.true_and, Bool.and_false, Bool.false_and]; done) | (refine pIf_f ?_ pRet_self; simp only [isBn, c_4, c_11, c_25, Bool.and_true, Bool.true_and, Bool.and_false, Bool.false_and]; done)
    · skip
      rw [bI_1, Bool.not_eq_false] at c_11
      refine pw_iload_n h 3 d_X8_rise_14 rfl ?_
      refine pw_i2l h d_X8_rise_15 ?_
      refine pw_ldc2 h d_X8_rise_16 ck_RX8_138 ?_
      refine pw_ldc2 h d_X8_rise_19 ck_RX8_131 ?_
      refine pw_callS (As := [.long _, .long _, .long _]) h d_X8_rise_22 mf_X8_in st_yX8_in ml_RX8_105 ⟨by decide, by decide, by decide⟩ rfl rfl (Nat.le_of_ble_eq_true rfl) (c_X8_inW (a := -20) (b := 20) rfl rfl) ?_
      refine PKk.ret ?_
      refine pw_if_ne 31 h d_X8_rise_25 (by decide) (fun c_25 => ?_) (fun c_25 => ?_)
      · skip
        rw [bI_1, Bool.not_eq_false] at c_25
        have hx := px_ix_13 (isW_ix (N := 4) c_4 rfl (by decide)) (isW_ix (N := 13) c_11 rfl (by decide))
        refine pw_aload_n h 0 d_X8_rise_31 rfl ?_
        refine pw_getR (j := (m + 6)) 8 h d_X8_rise_32 fd_RX8_25 (by assumption) rfl (by assumption) ?_
        refine pw_bipush (x := 13) h d_X8_rise_35 (by decide) ?_
        refine pw_iload_n h 1 d_X8_rise_37 rfl ?_
        refine pw_imul h d_X8_rise_38 ?_
        refine pw_iload_n h 2 d_X8_rise_39 rfl ?_
        refine pw_iadd h d_X8_rise_40 ?_
        refine pw_iald h d_X8_rise_41 (by assumption) (by assumption) ?_
        refine pw_nmI (fun v4_42 e4_42 => ?_)
        refine pw_istore (lv' := [(4, .int v4_42), (0, .ref m), (1, .int s), (2, .int p), (3, .int v)]) h d_X8_rise_42 _ hml (by decide) rfl ?_
        refine pw_aload_n h 1 d_X8_rise_44 rfl ?_
        refine pw_getR (j := (m + 6)) 8 h d_X8_rise_45 fd_RX8_25 (by assumption) rfl (by assumption) ?_
        refine pw_bipush (x := 13) h d_X8_rise_48 (by decide) ?_
        refine pw_iload_n h 2 d_X8_rise_50 rfl ?_
        refine pw_imul h d_X8_rise_51 ?_
        refine pw_iload_n h 3 d_X8_rise_52 rfl ?_
        refine pw_iadd h d_X8_rise_53 ?_
        refine pw_iload_n h 4 d_X8_rise_54 rfl ?_
        refine pw_iast h d_X8_rise_55 (by assumption) (by assumption) ?_
        refine pw_iload h 0 d_X8_rise_56 rfl ?_
        refine pw_iret h hr d_X8_rise_58 rfl (by decide) (by decide) ?_
        rw [e4_42]
        exact pIf_t (by simp only [isBn, c_4, c_11, c_25, Bool.and_true, Bool.true_and, Bool.and_false, Bool.false_and]) pRet_self
      · skip
        rw [bI_1] at c_25
        refine pw_bipush (x := (-101)) h d_X8_rise_28 (by decide) ?_
        refine pw_iret h hr d_X8_rise_30 rfl (by decide) (by decide) ?_
        first | (refine pIf_f ?_ pRet_self; simp only [isBn, c_4, Bool.and_true, Bool.true_and, Bool.and_false, Bool.false_and]; done) | (refine pIf_f ?_ pRet_self; simp only [isBn, c_4, c_11, Bool.and_true, Bool.true_and, Bool.and_false, Bool.false_and]; done) | (refine pIf_f ?_ pRet_self; simp only [isBn, c_4, c_11, c_25, Bool.and_true, Bool.true_and, Bool.and_false, Bool.false_and]; done)

set_option maxHeartbeats 4000000 in
set_option maxRecDepth 100000 in
theorem c_X8_remove {sh : Sh} {I : IM} {L : LM} {R : RM} {m n : Nat} (hM : ModF sh R m) (hn : I m 0 = nI n) (h6 : n ≤ 6) (b : Int32) : PMet M_X8_remove [.ref m, .int b] sh I L R (pIf (isBn n b) (pRet (some (.int (nI (n - 1)))) sh (delM I m n b.toNatClampNeg) L R) (pRet (some (.int (-1))) sh I L R)) := by
  refine PMet.of mf_X8_remove (Nat.le_of_ble_eq_true rfl) ?_
  intro X h hr hml
  have hml : (xc X).maxLocals = 3 := hml
  have h : PXok X RX8 cX8_remove 3 0 0 := h
  have hr : PXr X (some .int) "remove" _ 0 0 := hr
  have hM0 := hM
  obtain ⟨f0, f1, f2, f3, f4, f5, f6, f7, f8, f9, f10, f11, f12, f13, f14, f15, f16, f17, f18, f19, f20, f21, f22, f23, f24, f25, f26, f27, g1, g2, g3, g4, g5, g6, g7, g8, g9, g10, g11, g12, g13, g14, g15, g16, g17, g18, g19, g20, g21, g22, g23, g24, g25, g26, g27⟩ := hM
  show PW X 0 [(0, .ref m), (1, .int b)] [] sh I L R 0 0
  refine pw_aload_n h 0 d_X8_remove_0 rfl ?_
  refine pw_iload_n h 1 d_X8_remove_1 rfl ?_
  refine pw_callV (As := [.int _]) h d_X8_remove_2 mf_X8_isBearing mi_X8_isBearing ml_RX8_128 ⟨by decide, by decide, by decide⟩ (by assumption) rfl rfl (Nat.le_of_ble_eq_true rfl) trivial (c_X8_isBearing hM0 hn h6) ?_
  refine PKk.ret ?_
  refine pw_if_ne 10 h d_X8_remove_5 (by decide) (fun c_5 => ?_) (fun c_5 => ?_)
  · skip
    rw [bI_1, Bool.not_eq_false] at c_5
    have hx0 := isBn_ix (n := n) (N := n) c_5 (Nat.le_refl n)
    have hj := px_ix_lt hx0
    refine pw_iload_n h 1 d_X8_remove_10 rfl ?_
    refine pw_nmI (fun v2_11 e2_11 => ?_)
    refine pw_istore_n (lv' := [(2, .int v2_11), (0, .ref m), (1, .int b)]) h d_X8_remove_11 rfl _ hml (by decide) rfl ?_
    have cut_12 : ∀ (N t : Nat) (v : Int32), n ≤ t + N → b.toNatClampNeg ≤ t → t < n → v = nI t → PW X 12 [(0, .ref m), (1, .int b), (2, .int v)] [] sh (m4 I m (dlF (I (m + 1)) b.toNatClampNeg t) (dlF (I (m + 2)) b.toNatClampNeg t) (dlF (I (m + 3)) b.toNatClampNeg t) (dlF (I (m + 4)) b.toNatClampNeg t)) L R 0 0 := by
      intro N
      induction N with
      | zero => intros; omega
      | succ N ih =>
        intro t v hN hmt htn ev
        refine pw_iload_n h 2 d_X8_remove_12 rfl ?_
        refine pw_iconst (x := 1) h d_X8_remove_13 (by decide) ?_
        refine pw_iadd h d_X8_remove_14 ?_
        refine pw_aload_n h 0 d_X8_remove_15 rfl ?_
        refine pw_getI 8 h d_X8_remove_16 fd_RX8_109 (by assumption) rfl ?_
        refine pw_icmp_ge 84 h d_X8_remove_19 (by decide) (fun c_19 => ?_) (fun c_19 => ?_)
        · skip
          have hge : n ≤ t + 1 := k_ge (i := t + 1) (by rw [ev]; exact nI_1 t) (by rw [m4_0]; exact hn) (by omega) (by omega) c_19
          have e : t = n - 1 := by omega
          subst e
          refine pw_aload_n h 0 d_X8_remove_84 rfl ?_
          refine pw_dupR h d_X8_remove_85 ?_
          refine pw_getI 8 h d_X8_remove_86 fd_RX8_109 (by assumption) rfl ?_
          refine pw_iconst (x := 1) h d_X8_remove_89 (by decide) ?_
          refine pw_isub h d_X8_remove_90 ?_
          refine pw_putI 8 h d_X8_remove_91 fd_RX8_109 (by assumption) rfl rfl rfl rfl ?_
          refine pw_aload_n h 0 d_X8_remove_94 rfl ?_
          refine pw_getI 8 h d_X8_remove_95 fd_RX8_109 (by assumption) rfl ?_
          refine pw_iret h hr d_X8_remove_98 rfl (by decide) (by decide) ?_
          rw [u2_s]
          have e9 : nI n - 1 = nI (n - 1) := k_dn1 rfl (by omega)
          refine pIf_t c_5 ⟨by rw [m4_0, hn, e9], rfl, ?_, rfl, rfl⟩
          rw [m4_0, hn, e9]
          rfl
        · skip
          have hlt : t + 1 < n := k_lt (i := t + 1) (by rw [ev]; exact nI_1 t) (by rw [m4_0]; exact hn) (by omega) (by omega) c_19
          have hx : px_ix v 6 t := k_ix ev (by omega) (by decide)
          have hx1 : px_ix (v + 1) 6 (t + 1) := k_ix (by rw [ev]; exact nI_1 t) (by omega) (by decide)
          refine pw_aload_n h 0 d_X8_remove_22 rfl ?_
          refine pw_getR (j := (m + 1)) 8 h d_X8_remove_23 fd_RX8_7 (by assumption) rfl (by assumption) ?_
          refine pw_iload_n h 2 d_X8_remove_26 rfl ?_
          refine pw_aload_n h 0 d_X8_remove_27 rfl ?_
          refine pw_getR (j := (m + 1)) 8 h d_X8_remove_28 fd_RX8_7 (by assumption) rfl (by assumption) ?_
          refine pw_iload_n h 2 d_X8_remove_31 rfl ?_
          refine pw_iconst (x := 1) h d_X8_remove_32 (by decide) ?_
          refine pw_iadd h d_X8_remove_33 ?_
          refine pw_iald h d_X8_remove_34 (by assumption) (by assumption) ?_
          refine pw_iast h d_X8_remove_35 (by assumption) (by assumption) ?_
          refine pw_aload_n h 0 d_X8_remove_36 rfl ?_
          refine pw_getR (j := (m + 2)) 8 h d_X8_remove_37 fd_RX8_13 (by assumption) rfl (by assumption) ?_
          refine pw_iload_n h 2 d_X8_remove_40 rfl ?_
          refine pw_aload_n h 0 d_X8_remove_41 rfl ?_
          refine pw_getR (j := (m + 2)) 8 h d_X8_remove_42 fd_RX8_13 (by assumption) rfl (by assumption) ?_
          refine pw_iload_n h 2 d_X8_remove_45 rfl ?_
          refine pw_iconst (x := 1) h d_X8_remove_46 (by decide) ?_
          refine pw_iadd h d_X8_remove_47 ?_
          refine pw_iald h d_X8_remove_48 (by assumption) (by assumption) ?_
          refine pw_iast h d_X8_remove_49 (by assumption) (by assumption) ?_
          refine pw_aload_n h 0 d_X8_remove_50 rfl ?_
          refine pw_getR (j := (m + 3)) 8 h d_X8_remove_51 fd_RX8_16 (by assumption) rfl (by assumption) ?_
          refine pw_iload_n h 2 d_X8_remove_54 rfl ?_
          refine pw_aload_n h 0 d_X8_remove_55 rfl ?_
          refine pw_getR (j := (m + 3)) 8 h d_X8_remove_56 fd_RX8_16 (by assumption) rfl (by assumption) ?_
          refine pw_iload_n h 2 d_X8_remove_59 rfl ?_
          refine pw_iconst (x := 1) h d_X8_remove_60 (by decide) ?_
          refine pw_iadd h d_X8_remove_61 ?_
          refine pw_iald h d_X8_remove_62 (by assumption) (by assumption) ?_
          refine pw_iast h d_X8_remove_63 (by assumption) (by assumption) ?_
          refine pw_aload_n h 0 d_X8_remove_64 rfl ?_
          refine pw_getR (j := (m + 4)) 8 h d_X8_remove_65 fd_RX8_19 (by assumption) rfl (by assumption) ?_
          refine pw_iload_n h 2 d_X8_remove_68 rfl ?_
          refine pw_aload_n h 0 d_X8_remove_69 rfl ?_
          refine pw_getR (j := (m + 4)) 8 h d_X8_remove_70 fd_RX8_19 (by assumption) rfl (by assumption) ?_
          refine pw_iload_n h 2 d_X8_remove_73 rfl ?_
          refine pw_iconst (x := 1) h d_X8_remove_74 (by decide) ?_
          refine pw_iadd h d_X8_remove_75 ?_
          refine pw_iald h d_X8_remove_76 (by assumption) (by assumption) ?_
          refine pw_iast h d_X8_remove_77 (by assumption) (by assumption) ?_
          obtain ⟨v2_78, e2_78⟩ : ∃ z : Int32, z = v + (1) := ⟨_, rfl⟩
          refine pw_iinc (lv' := [(2, .int v2_78), (0, .ref m), (1, .int b)]) v2_78 h d_X8_remove_78 2 rfl e2_78.symm _ hml (by decide) rfl ?_
          refine pw_goto 12 h d_X8_remove_81 (by decide) ?_
          refine PW.perm [1, 2, 0] rfl ?_
          refine pw_mem ?_ rfl rfl (ih (t + 1) v2_78 (by omega) (by omega) (by omega) (k_up e2_78 ev))
          rw [m4_set]
          simp only [u2_n1 (show m + 1 ≠ m + 2 by omega), u2_n1 (show m + 1 ≠ m + 3 by omega), u2_n1 (show m + 1 ≠ m + 4 by omega), u2_n1 (show m + 2 ≠ m + 1 by omega), u2_n1 (show m + 2 ≠ m + 3 by omega), u2_n1 (show m + 2 ≠ m + 4 by omega), u2_n1 (show m + 3 ≠ m + 1 by omega), u2_n1 (show m + 3 ≠ m + 2 by omega), u2_n1 (show m + 3 ≠ m + 4 by omega), u2_n1 (show m + 4 ≠ m + 1 by omega), u2_n1 (show m + 4 ≠ m + 2 by omega), u2_n1 (show m + 4 ≠ m + 3 by omega), m4_1, m4_2, m4_3, m4_4]
          rw [dlF_s hmt, dlF_s hmt, dlF_s hmt, dlF_s hmt]
    refine PW.perm [1, 2, 0] rfl ?_
    refine pw_mem (by rw [dlF_0, dlF_0, dlF_0, dlF_0, m4_self]) rfl rfl (cut_12 n b.toNatClampNeg v2_11 (by omega) (by omega) (by omega) (by rw [e2_11]; exact px_ix_eq hx0))
  · skip
    rw [bI_1] at c_5
    refine pw_iconst (x := (-1)) h d_X8_remove_8 (by decide) ?_
    refine pw_iret h hr d_X8_remove_9 rfl (by decide) (by decide) ?_
    exact pIf_f c_5 pRet_self

set_option maxHeartbeats 4000000 in
set_option maxRecDepth 100000 in
theorem c_X8_told {sh : Sh} {I : IM} {L : LM} {R : RM} {m n : Nat} (hM : ModF sh R m) (hn : I m 0 = nI n) (h6 : n ≤ 6) (b w : Int32) : PMet M_X8_told [.ref m, .int b, .int w] sh I L R (pIf (isBn n b && isW w 0 3) (pRet (some (.int (I (m + 1 + w.toNatClampNeg) b.toNatClampNeg))) sh I L R) (pRet (some (.int (-100001))) sh I L R)) := by
  refine PMet.of mf_X8_told (Nat.le_of_ble_eq_true rfl) ?_
  intro X h hr hml
  have hml : (xc X).maxLocals = 3 := hml
  have h : PXok X RX8 cX8_told 3 0 0 := h
  have hr : PXr X (some .int) "told" _ 0 0 := hr
  have hM0 := hM
  obtain ⟨f0, f1, f2, f3, f4, f5, f6, f7, f8, f9, f10, f11, f12, f13, f14, f15, f16, f17, f18, f19, f20, f21, f22, f23, f24, f25, f26, f27, g1, g2, g3, g4, g5, g6, g7, g8, g9, g10, g11, g12, g13, g14, g15, g16, g17, g18, g19, g20, g21, g22, g23, g24, g25, g26, g27⟩ := hM
  show PW X 0 [(0, .ref m), (1, .int b), (2, .int w)] [] sh I L R 0 0
  refine pw_aload_n h 0 d_X8_told_0 rfl ?_
  refine pw_iload_n h 1 d_X8_told_1 rfl ?_
  refine pw_callV (As := [.int _]) h d_X8_told_2 mf_X8_isBearing mi_X8_isBearing ml_RX8_128 ⟨by decide, by decide, by decide⟩ (by assumption) rfl rfl (Nat.le_of_ble_eq_true rfl) trivial (c_X8_isBearing hM0 hn h6) ?_
  refine PKk.ret ?_
  refine pw_if_eq 20 h d_X8_told_5 (by decide) (fun c_5 => ?_) (fun c_5 => ?_)
  · skip
    rw [bI_1] at c_5
    refine pw_ldc h d_X8_told_20 ck_RX8_194 ?_
    refine pw_iret h hr d_X8_told_22 rfl (by decide) (by decide) ?_
    first | (refine pIf_f ?_ pRet_self; simp only [isBn, c_5, Bool.and_true, Bool.true_and, Bool.and_false, Bool.false_and]; done) | (refine pIf_f ?_ pRet_self; simp only [isBn, c_5, c_17, Bool.and_true, Bool.true_and, Bool.and_false, Bool.false_and]; done)
  · skip
    rw [bI_1, Bool.not_eq_false] at c_5
    refine pw_iload_n h 2 d_X8_told_8 rfl ?_
    refine pw_i2l h d_X8_told_9 ?_
    refine pw_lconst (x := 0) h d_X8_told_10 (by decide) ?_
    refine pw_ldc2 h d_X8_told_11 ck_RX8_133 ?_
    refine pw_callS (As := [.long _, .long _, .long _]) h d_X8_told_14 mf_X8_in st_yX8_in ml_RX8_105 ⟨by decide, by decide, by decide⟩ rfl rfl (Nat.le_of_ble_eq_true rfl) (c_X8_inW (a := 0) (b := 3) rfl rfl) ?_
    refine PKk.ret ?_
    refine pw_if_ne 23 h d_X8_told_17 (by decide) (fun c_17 => ?_) (fun c_17 => ?_)
    · skip
      rw [bI_1, Bool.not_eq_false] at c_17
      have hx := isBn_ix (n := n) (N := 6) c_5 h6
      have hw := k_four c_17
      refine pw_iload_n h 2 d_X8_told_23 rfl ?_
      refine pw_if_ne 36 h d_X8_told_24 (by decide) (fun c_24 => ?_) (fun c_24 => ?_)
      · skip
        refine pw_iload_n h 2 d_X8_told_36 rfl ?_
        refine pw_iconst (x := 1) h d_X8_told_37 (by decide) ?_
        refine pw_icmp_ne 50 h d_X8_told_38 (by decide) (fun c_38 => ?_) (fun c_38 => ?_)
        · skip
          refine pw_iload_n h 2 d_X8_told_50 rfl ?_
          refine pw_iconst (x := 2) h d_X8_told_51 (by decide) ?_
          refine pw_icmp_ne 64 h d_X8_told_52 (by decide) (fun c_52 => ?_) (fun c_52 => ?_)
          · skip
            refine pw_aload_n h 0 d_X8_told_64 rfl ?_
            refine pw_getR (j := (m + 4)) 8 h d_X8_told_65 fd_RX8_19 (by assumption) rfl (by assumption) ?_
            refine pw_iload_n h 1 d_X8_told_68 rfl ?_
            refine pw_iald h d_X8_told_69 (by assumption) (by assumption) ?_
            refine pw_iret h hr d_X8_told_70 rfl (by decide) (by decide) ?_
            have hc : (isBn n b && isW w 0 3) = true := (by simp only [isBn, c_5, c_17, Bool.and_true, Bool.true_and, Bool.and_false, Bool.false_and])
            rcases hw with e | e | e | e <;> subst e <;> first | exact absurd c_24 (by decide) | exact absurd c_38 (by decide) | exact absurd c_52 (by decide) | exact pIf_t hc pRet_self
          · skip
            refine pw_aload_n h 0 d_X8_told_55 rfl ?_
            refine pw_getR (j := (m + 3)) 8 h d_X8_told_56 fd_RX8_16 (by assumption) rfl (by assumption) ?_
            refine pw_iload_n h 1 d_X8_told_59 rfl ?_
            refine pw_iald h d_X8_told_60 (by assumption) (by assumption) ?_
            refine pw_goto 70 h d_X8_told_61 (by decide) ?_
            refine pw_iret h hr d_X8_told_70 rfl (by decide) (by decide) ?_
            have hc : (isBn n b && isW w 0 3) = true := (by simp only [isBn, c_5, c_17, Bool.and_true, Bool.true_and, Bool.and_false, Bool.false_and])
            rcases hw with e | e | e | e <;> subst e <;> first | exact absurd c_24 (by decide) | exact absurd c_38 (by decide) | exact absurd c_52 (by decide) | exact pIf_t hc pRet_self
        · skip
          refine pw_aload_n h 0 d_X8_told_41 rfl ?_
          refine pw_getR (j := (m + 2)) 8 h d_X8_told_42 fd_RX8_13 (by assumption) rfl (by assumption) ?_
          refine pw_iload_n h 1 d_X8_told_45 rfl ?_
          refine pw_iald h d_X8_told_46 (by assumption) (by assumption) ?_
          refine pw_goto 70 h d_X8_told_47 (by decide) ?_
          refine pw_iret h hr d_X8_told_70 rfl (by decide) (by decide) ?_
          have hc : (isBn n b && isW w 0 3) = true := (by simp only [isBn, c_5, c_17, Bool.and_true, Bool.true_and, Bool.and_false, Bool.false_and])
          rcases hw with e | e | e | e <;> subst e <;> first | exact absurd c_24 (by decide) | exact absurd c_38 (by decide) | exact absurd c_52 (by decide) | exact pIf_t hc pRet_self
      · skip
        refine pw_aload_n h 0 d_X8_told_27 rfl ?_
        refine pw_getR (j := (m + 1)) 8 h d_X8_told_28 fd_RX8_7 (by assumption) rfl (by assumption) ?_
        refine pw_iload_n h 1 d_X8_told_31 rfl ?_
        refine pw_iald h d_X8_told_32 (by assumption) (by assumption) ?_
        refine pw_goto 70 h d_X8_told_33 (by decide) ?_
        refine pw_iret h hr d_X8_told_70 rfl (by decide) (by decide) ?_
        have hc : (isBn n b && isW w 0 3) = true := (by simp only [isBn, c_5, c_17, Bool.and_true, Bool.true_and, Bool.and_false, Bool.false_and])
        rcases hw with e | e | e | e <;> subst e <;> first | exact absurd c_24 (by decide) | exact absurd c_38 (by decide) | exact absurd c_52 (by decide) | exact pIf_t hc pRet_self
    · skip
      rw [bI_1] at c_17
      refine pw_ldc h d_X8_told_20 ck_RX8_194 ?_
      refine pw_iret h hr d_X8_told_22 rfl (by decide) (by decide) ?_
      first | (refine pIf_f ?_ pRet_self; simp only [isBn, c_5, Bool.and_true, Bool.true_and, Bool.and_false, Bool.false_and]; done) | (refine pIf_f ?_ pRet_self; simp only [isBn, c_5, c_17, Bool.and_true, Bool.true_and, Bool.and_false, Bool.false_and]; done)

set_option maxHeartbeats 4000000 in
set_option maxRecDepth 100000 in
theorem c_X8_count {sh : Sh} {I : IM} {L : LM} {R : RM} {m n : Nat} (hM : ModF sh R m) (hn : I m 0 = nI n) (h6 : n ≤ 6) (w : Int32) : PMet M_X8_count [.ref m, .int w] sh I L R (pRet (some (.int (cntA n (sumI (I (m + 5)) 13) (I m 7) (cntP (I (m + 5)) 13) w))) sh I L R) := by
  refine PMet.of mf_X8_count (Nat.le_of_ble_eq_true rfl) ?_
  intro X h hr hml
  have hml : (xc X).maxLocals = 4 := hml
  have h : PXok X RX8 cX8_count 2 0 0 := h
  have hr : PXr X (some .int) "count" _ 0 0 := hr
  have hM0 := hM
  obtain ⟨f0, f1, f2, f3, f4, f5, f6, f7, f8, f9, f10, f11, f12, f13, f14, f15, f16, f17, f18, f19, f20, f21, f22, f23, f24, f25, f26, f27, g1, g2, g3, g4, g5, g6, g7, g8, g9, g10, g11, g12, g13, g14, g15, g16, g17, g18, g19, g20, g21, g22, g23, g24, g25, g26, g27⟩ := hM
  show PW X 0 [(0, .ref m), (1, .int w)] [] sh I L R 0 0
  refine pw_iconst (x := 0) h d_X8_count_0 (by decide) ?_
  refine pw_nmI (fun v2_1 e2_1 => ?_)
  refine pw_istore_n (lv' := [(2, .int v2_1), (0, .ref m), (1, .int w)]) h d_X8_count_1 rfl _ hml (by decide) rfl ?_
  refine pw_iconst (x := 0) h d_X8_count_2 (by decide) ?_
  refine pw_nmI (fun v3_3 e3_3 => ?_)
  refine pw_istore_n (lv' := [(3, .int v3_3), (2, .int v2_1), (0, .ref m), (1, .int w)]) h d_X8_count_3 rfl _ hml (by decide) rfl ?_
  have cut_4 : ∀ (N i : Nat) (a v : Int32), 13 < i + N → i ≤ 13 → v = nI i → a = nI (cntP (I (m + 5)) i) → PW X 4 [(0, .ref m), (1, .int w), (2, .int a), (3, .int v)] [] sh I L R 0 0 := by
    intro N
    induction N with
    | zero => intros; omega
    | succ N ih =>
      intro i a v hN hi ev ea
      refine pw_iload_n h 3 d_X8_count_4 rfl ?_
      refine pw_bipush (x := 13) h d_X8_count_5 (by decide) ?_
      refine pw_icmp_ge 33 h d_X8_count_7 (by decide) (fun c_7 => ?_) (fun c_7 => ?_)
      · skip
        have hge := k_ge ev (n := 13) rfl (by omega) (by omega) c_7
        have e : i = 13 := by omega
        subst e
        refine pw_iload_n h 1 d_X8_count_33 rfl ?_
        refine pw_if_ne 44 h d_X8_count_34 (by decide) (fun c_34 => ?_) (fun c_34 => ?_)
        · skip
          refine pw_iload_n h 1 d_X8_count_44 rfl ?_
          refine pw_iconst (x := 1) h d_X8_count_45 (by decide) ?_
          refine pw_icmp_ne 56 h d_X8_count_46 (by decide) (fun c_46 => ?_) (fun c_46 => ?_)
          · skip
            refine pw_iload_n h 1 d_X8_count_56 rfl ?_
            refine pw_iconst (x := 2) h d_X8_count_57 (by decide) ?_
            refine pw_icmp_ne 68 h d_X8_count_58 (by decide) (fun c_58 => ?_) (fun c_58 => ?_)
            · skip
              refine pw_iload_n h 1 d_X8_count_68 rfl ?_
              refine pw_iconst (x := 3) h d_X8_count_69 (by decide) ?_
              refine pw_icmp_ne 77 h d_X8_count_70 (by decide) (fun c_70 => ?_) (fun c_70 => ?_)
              · skip
                refine pw_iconst (x := (-1)) h d_X8_count_77 (by decide) ?_
                refine pw_iret h hr d_X8_count_78 rfl (by decide) (by decide) ?_
                refine ⟨congrArg (fun z => some (Value.int z)) ?_, rfl, rfl, rfl, rfl⟩
                unfold cntA
                first | rw [if_pos (by assumption), hn] | rw [if_neg (by assumption), if_pos (by assumption)] | rw [if_neg (by assumption), if_neg (by assumption), if_pos (by assumption)] | rw [if_neg (by assumption), if_neg (by assumption), if_neg (by assumption), if_pos (by assumption), ea] | rw [if_neg (by assumption), if_neg (by assumption), if_neg (by assumption), if_neg (by assumption)]
              · skip
                refine pw_iload_n h 2 d_X8_count_73 rfl ?_
                refine pw_goto 78 h d_X8_count_74 (by decide) ?_
                refine pw_iret h hr d_X8_count_78 rfl (by decide) (by decide) ?_
                refine ⟨congrArg (fun z => some (Value.int z)) ?_, rfl, rfl, rfl, rfl⟩
                unfold cntA
                first | rw [if_pos (by assumption), hn] | rw [if_neg (by assumption), if_pos (by assumption)] | rw [if_neg (by assumption), if_neg (by assumption), if_pos (by assumption)] | rw [if_neg (by assumption), if_neg (by assumption), if_neg (by assumption), if_pos (by assumption), ea] | rw [if_neg (by assumption), if_neg (by assumption), if_neg (by assumption), if_neg (by assumption)]
            · skip
              refine pw_aload_n h 0 d_X8_count_61 rfl ?_
              refine pw_getI 8 h d_X8_count_62 fd_RX8_28 (by assumption) rfl ?_
              refine pw_goto 78 h d_X8_count_65 (by decide) ?_
              refine pw_iret h hr d_X8_count_78 rfl (by decide) (by decide) ?_
              refine ⟨congrArg (fun z => some (Value.int z)) ?_, rfl, rfl, rfl, rfl⟩
              unfold cntA
              first | rw [if_pos (by assumption), hn] | rw [if_neg (by assumption), if_pos (by assumption)] | rw [if_neg (by assumption), if_neg (by assumption), if_pos (by assumption)] | rw [if_neg (by assumption), if_neg (by assumption), if_neg (by assumption), if_pos (by assumption), ea] | rw [if_neg (by assumption), if_neg (by assumption), if_neg (by assumption), if_neg (by assumption)]
          · skip
            refine pw_aload_n h 0 d_X8_count_49 rfl ?_
            refine pw_callV (As := []) h d_X8_count_50 mf_X8_allWeights mi_X8_allWeights ml_RX8_195 ⟨by decide, by decide, by decide⟩ (by assumption) rfl rfl (Nat.le_of_ble_eq_true rfl) trivial (c_X8_allWeights hM0) ?_
            refine PKk.ret ?_
            refine pw_goto 78 h d_X8_count_53 (by decide) ?_
            refine pw_iret h hr d_X8_count_78 rfl (by decide) (by decide) ?_
            refine ⟨congrArg (fun z => some (Value.int z)) ?_, rfl, rfl, rfl, rfl⟩
            unfold cntA
            first | rw [if_pos (by assumption), hn] | rw [if_neg (by assumption), if_pos (by assumption)] | rw [if_neg (by assumption), if_neg (by assumption), if_pos (by assumption)] | rw [if_neg (by assumption), if_neg (by assumption), if_neg (by assumption), if_pos (by assumption), ea] | rw [if_neg (by assumption), if_neg (by assumption), if_neg (by assumption), if_neg (by assumption)]
        · skip
          refine pw_aload_n h 0 d_X8_count_37 rfl ?_
          refine pw_getI 8 h d_X8_count_38 fd_RX8_109 (by assumption) rfl ?_
          refine pw_goto 78 h d_X8_count_41 (by decide) ?_
          refine pw_iret h hr d_X8_count_78 rfl (by decide) (by decide) ?_
          refine ⟨congrArg (fun z => some (Value.int z)) ?_, rfl, rfl, rfl, rfl⟩
          unfold cntA
          first | rw [if_pos (by assumption), hn] | rw [if_neg (by assumption), if_pos (by assumption)] | rw [if_neg (by assumption), if_neg (by assumption), if_pos (by assumption)] | rw [if_neg (by assumption), if_neg (by assumption), if_neg (by assumption), if_pos (by assumption), ea] | rw [if_neg (by assumption), if_neg (by assumption), if_neg (by assumption), if_neg (by assumption)]
      · skip
        have hlt := k_lt ev (n := 13) rfl (by omega) (by omega) c_7
        have hx := k_ix ev (Nat.lt_of_lt_of_le hlt (show 13 ≤ 13 by omega)) (by decide)
        refine pw_iload_n h 2 d_X8_count_10 rfl ?_
        refine pw_aload_n h 0 d_X8_count_11 rfl ?_
        refine pw_getR (j := (m + 5)) 8 h d_X8_count_12 fd_RX8_22 (by assumption) rfl (by assumption) ?_
        refine pw_iload_n h 3 d_X8_count_15 rfl ?_
        refine pw_iald h d_X8_count_16 (by assumption) (by assumption) ?_
        refine pw_if_le 24 h d_X8_count_17 (by decide) (fun c_17 => ?_) (fun c_17 => ?_)
        · skip
          refine pw_iconst (x := 0) h d_X8_count_24 (by decide) ?_
          refine pw_iadd h d_X8_count_25 ?_
          refine pw_nmI (fun v2_26 e2_26 => ?_)
          refine pw_istore_n (lv' := [(2, .int v2_26), (0, .ref m), (1, .int w), (3, .int v)]) h d_X8_count_26 rfl _ hml (by decide) rfl ?_
          obtain ⟨v3_27, e3_27⟩ : ∃ z : Int32, z = v + (1) := ⟨_, rfl⟩
          refine pw_iinc (lv' := [(3, .int v3_27), (2, .int v2_26), (0, .ref m), (1, .int w)]) v3_27 h d_X8_count_27 3 rfl e3_27.symm _ hml (by decide) rfl ?_
          refine pw_goto 4 h d_X8_count_30 (by decide) ?_
          refine PW.perm [2, 3, 1, 0] rfl ?_
          exact ih (i + 1) v2_26 v3_27 (by omega) (by omega) (k_up e3_27 ev) (by rw [e2_26, ea]; simp only [cntP]; first | (rw [if_neg (by rw [Int32.lt_iff_toInt_lt]; rw [Int32.le_iff_toInt_le] at c_17; omega), Nat.add_zero]; exact Int32.add_zero _) | (rw [if_pos (by rw [Int32.lt_iff_toInt_lt]; rw [Int32.le_iff_toInt_le] at c_17; omega)]; exact nI_1 _))
        · skip
          refine pw_iconst (x := 1) h d_X8_count_20 (by decide) ?_
          refine pw_goto 25 h d_X8_count_21 (by decide) ?_
          refine pw_iadd h d_X8_count_25 ?_
          refine pw_nmI (fun v2_26 e2_26 => ?_)
          refine pw_istore_n (lv' := [(2, .int v2_26), (0, .ref m), (1, .int w), (3, .int v)]) h d_X8_count_26 rfl _ hml (by decide) rfl ?_
          obtain ⟨v3_27, e3_27⟩ : ∃ z : Int32, z = v + (1) := ⟨_, rfl⟩
          refine pw_iinc (lv' := [(3, .int v3_27), (2, .int v2_26), (0, .ref m), (1, .int w)]) v3_27 h d_X8_count_27 3 rfl e3_27.symm _ hml (by decide) rfl ?_
          refine pw_goto 4 h d_X8_count_30 (by decide) ?_
          refine PW.perm [2, 3, 1, 0] rfl ?_
          exact ih (i + 1) v2_26 v3_27 (by omega) (by omega) (k_up e3_27 ev) (by rw [e2_26, ea]; simp only [cntP]; first | (rw [if_neg (by rw [Int32.lt_iff_toInt_lt]; rw [Int32.le_iff_toInt_le] at c_17; omega), Nat.add_zero]; exact Int32.add_zero _) | (rw [if_pos (by rw [Int32.lt_iff_toInt_lt]; rw [Int32.le_iff_toInt_le] at c_17; omega)]; exact nI_1 _))
  refine PW.perm [2, 3, 1, 0] rfl ?_
  exact cut_4 14 0 v2_1 v3_3 (by omega) (by omega) e3_3 e2_1

set_option maxHeartbeats 4000000 in
set_option maxRecDepth 100000 in
theorem c_X8_closes {sh : Sh} {I : IM} {L : LM} {R : RM} {m n : Nat} (hM : ModF sh R m) (hn : I m 0 = nI n) (h6 : n ≤ 6) : PMet M_X8_closes [.ref m] sh I L R (pRet (some (.int (closesS n (missI (sumI (I (m + 5)) 13) (I (m + 4)) n) (missM (momI (I (m + 5)) 13) (I (m + 1)) (I (m + 4)) n) (I (m + 1))))) sh I L R) := by
  refine PMet.of mf_X8_closes (Nat.le_of_ble_eq_true rfl) ?_
  intro X h hr hml
  have hml : (xc X).maxLocals = 2 := hml
  have h : PXok X RX8 cX8_closes 3 0 0 := h
  have hr : PXr X (some .int) "closes" _ 0 0 := hr
  have hM0 := hM
  obtain ⟨f0, f1, f2, f3, f4, f5, f6, f7, f8, f9, f10, f11, f12, f13, f14, f15, f16, f17, f18, f19, f20, f21, f22, f23, f24, f25, f26, f27, g1, g2, g3, g4, g5, g6, g7, g8, g9, g10, g11, g12, g13, g14, g15, g16, g17, g18, g19, g20, g21, g22, g23, g24, g25, g26, g27⟩ := hM
  obtain ⟨D, hD⟩ : ∃ D, D = missI (sumI (I (m + 5)) 13) (I (m + 4)) n := ⟨_, rfl⟩
  obtain ⟨E, hE⟩ : ∃ E, E = missM (momI (I (m + 5)) 13) (I (m + 1)) (I (m + 4)) n := ⟨_, rfl⟩
  rw [← hD, ← hE] at hr
  show PW X 0 [(0, .ref m)] [] sh I L R 0 0
  refine pw_aload_n h 0 d_X8_closes_0 rfl ?_
  refine pw_getI 8 h d_X8_closes_1 fd_RX8_109 (by assumption) rfl ?_
  refine pw_if_ne 10 h d_X8_closes_4 (by decide) (fun c_4 => ?_) (fun c_4 => ?_)
  · skip
    have hn0 := k_n0 hn (by omega) c_4
    refine pw_aload_n h 0 d_X8_closes_10 rfl ?_
    refine pw_iconst (x := 0) h d_X8_closes_11 (by decide) ?_
    refine pw_callV (As := [.int _]) h d_X8_closes_12 mf_X8_lacks mi_X8_lacks ml_RX8_337 ⟨by decide, by decide, by decide⟩ (by assumption) rfl rfl (Nat.le_of_ble_eq_true rfl) trivial (c_X8_lacks0 hM0 hn h6) ?_
    refine PKk.ret ?_
    rw [← hD]
    have cut_30 : ∀ (N i : Nat) (v : Int32), ¬ (D = 0 ∧ E = 0) → n < i + N → i ≤ n → v = nI i → fstB (fun b => wrongB D E (I (m + 1) b)) i = none → PW X 30 [(0, .ref m), (1, .int v)] [] sh I L R 0 0 := by
      intro N
      induction N with
      | zero => intros; omega
      | succ N ih =>
        intro i v hde hN hi ev hs
        refine pw_iload_n h 1 d_X8_closes_30 rfl ?_
        refine pw_aload_n h 0 d_X8_closes_31 rfl ?_
        refine pw_getI 8 h d_X8_closes_32 fd_RX8_109 (by assumption) rfl ?_
        refine pw_icmp_ge 57 h d_X8_closes_35 (by decide) (fun c_35 => ?_) (fun c_35 => ?_)
        · skip
          have hge := k_ge ev (n := n) hn (by omega) (by omega) c_35
          have e : i = n := by omega
          subst e
          refine pw_iconst (x := 0) h d_X8_closes_57 (by decide) ?_
          refine pw_iret h hr d_X8_closes_58 rfl (by decide) (by decide) ?_
          exact ⟨by rw [closesS_3 hn0 hde hs], rfl, rfl, rfl, rfl⟩
        · skip
          have hlt := k_lt ev (n := n) hn (by omega) (by omega) c_35
          have hx := k_ix ev (Nat.lt_of_lt_of_le hlt (show n ≤ 6 by omega)) (by decide)
          refine pw_aload_n h 0 d_X8_closes_38 rfl ?_
          refine pw_iload_n h 1 d_X8_closes_39 rfl ?_
          refine pw_callV (As := [.int _]) h d_X8_closes_40 mf_X8_isWrong mi_X8_isWrong ml_RX8_340 ⟨by decide, by decide, by decide⟩ (by assumption) rfl rfl (Nat.le_of_ble_eq_true rfl) trivial (c_X8_isWrong hM0 hn h6 ev (Nat.lt_of_lt_of_le hlt h6)) ?_
          refine PKk.ret ?_
          rw [← hD, ← hE]
          refine pw_if_eq 51 h d_X8_closes_43 (by decide) (fun c_43 => ?_) (fun c_43 => ?_)
          · skip
            rw [bI_1] at c_43
            obtain ⟨v1_51, e1_51⟩ : ∃ z : Int32, z = v + (1) := ⟨_, rfl⟩
            refine pw_iinc (lv' := [(1, .int v1_51), (0, .ref m)]) v1_51 h d_X8_closes_51 1 rfl e1_51.symm _ hml (by decide) rfl ?_
            refine pw_goto 30 h d_X8_closes_54 (by decide) ?_
            refine PW.perm [1, 0] rfl ?_
            exact ih (i + 1) v1_51 hde (by omega) (by omega) (k_up e1_51 ev) (fstB_no hs c_43)
          · skip
            rw [bI_1, Bool.not_eq_false] at c_43
            refine pw_bipush (x := 10) h d_X8_closes_46 (by decide) ?_
            refine pw_iload_n h 1 d_X8_closes_48 rfl ?_
            refine pw_iadd h d_X8_closes_49 ?_
            refine pw_iret h hr d_X8_closes_50 rfl (by decide) (by decide) ?_
            exact ⟨by rw [closesS_2 hn0 hde (fstB_at hs c_43 n hlt), ev], rfl, rfl, rfl, rfl⟩
    refine pw_if_ne 28 h d_X8_closes_15 (by decide) (fun c_15 => ?_) (fun c_15 => ?_)
    · skip
      refine pw_iconst (x := 0) h d_X8_closes_28 (by decide) ?_
      refine pw_nmI (fun v1_29 e1_29 => ?_)
      refine pw_istore_n (lv' := [(1, .int v1_29), (0, .ref m)]) h d_X8_closes_29 rfl _ hml (by decide) rfl ?_
      refine PW.perm [1, 0] rfl ?_
      exact cut_30 (n + 1) 0 v1_29 (by first | exact fun q => c_15 q.1 | exact fun q => c_23 q.2) (by omega) (by omega) e1_29 rfl
    · skip
      refine pw_aload_n h 0 d_X8_closes_18 rfl ?_
      refine pw_iconst (x := 1) h d_X8_closes_19 (by decide) ?_
      refine pw_callV (As := [.int _]) h d_X8_closes_20 mf_X8_lacks mi_X8_lacks ml_RX8_337 ⟨by decide, by decide, by decide⟩ (by assumption) rfl rfl (Nat.le_of_ble_eq_true rfl) trivial (c_X8_lacks1 hM0 hn h6) ?_
      refine PKk.ret ?_
      rw [← hE]
      refine pw_if_ne 28 h d_X8_closes_23 (by decide) (fun c_23 => ?_) (fun c_23 => ?_)
      · skip
        refine pw_iconst (x := 0) h d_X8_closes_28 (by decide) ?_
        refine pw_nmI (fun v1_29 e1_29 => ?_)
        refine pw_istore_n (lv' := [(1, .int v1_29), (0, .ref m)]) h d_X8_closes_29 rfl _ hml (by decide) rfl ?_
        refine PW.perm [1, 0] rfl ?_
        exact cut_30 (n + 1) 0 v1_29 (by first | exact fun q => c_15 q.1 | exact fun q => c_23 q.2) (by omega) (by omega) e1_29 rfl
      · skip
        refine pw_iconst (x := 1) h d_X8_closes_26 (by decide) ?_
        refine pw_iret h hr d_X8_closes_27 rfl (by decide) (by decide) ?_
        exact ⟨by rw [closesS_1 hn0 ⟨c_15, c_23⟩], rfl, rfl, rfl, rfl⟩
  · skip
    have hn0 := k_is0 hn (by omega) c_4
    subst hn0
    refine pw_bipush (x := (-4)) h d_X8_closes_7 (by decide) ?_
    refine pw_iret h hr d_X8_closes_9 rfl (by decide) (by decide) ?_
    exact ⟨rfl, rfl, rfl, rfl, rfl⟩

set_option maxHeartbeats 4000000 in
set_option maxRecDepth 100000 in
theorem c_X7_told {sh : Sh} {I : IM} {L : LM} {R : RM} (hC : ClassF sh R) {n : Nat} (hn : I 1 0 = nI n) (h6 : n ≤ 6) (b w : Int32) : PMet M_X7_told [.ref 0, .int b, .int w] sh I L R (pIf (isBn n b && isW w 0 3) (pRet (some (.int (I (1 + 1 + w.toNatClampNeg) b.toNatClampNeg))) sh I L R) (pRet (some (.int (-100001))) sh I L R)) := by
  refine PMet.of mf_X7_told (Nat.le_of_ble_eq_true rfl) ?_
  intro X h hr hml
  have hml : (xc X).maxLocals = 3 := hml
  have h : PXok X RX7 cX7_told 3 0 0 := h
  have hr : PXr X (some .int) "told" _ 0 0 := hr
  have hC0 := hC
  obtain ⟨k0, r0, r1, r2, r4, r5, r6, r7, r8, r13, r15, r16, hL, k7, r7s, k8s, k12, k20, r20s, hSs, k71, k72⟩ := hC
  have hL0 := hL
  obtain ⟨f0, f1, f2, f3, f4, f5, g1, g2, g3, g4, g5⟩ := hL
  show PW X 0 [(0, .ref 0), (1, .int b), (2, .int w)] [] sh I L R 0 0
  refine pw_aload_n h 0 d_X7_told_0 rfl ?_
  refine pw_iload_n h 1 d_X7_told_1 rfl ?_
  refine pw_callV (As := [.int _]) h d_X7_told_2 mf_X7_isBearing mi_X7_isBearing ml_RX7_115 ⟨by decide, by decide, by decide⟩ (by assumption) rfl rfl (Nat.le_of_ble_eq_true rfl) trivial (c_X7_isBearing _ (by assumption) (by assumption) (by assumption) hn h6) ?_
  refine PKk.ret ?_
  refine pw_if_eq 17 h d_X7_told_5 (by decide) (fun c_5 => ?_) (fun c_5 => ?_)
  · skip
    rw [bI_1] at c_5
    refine pw_ldc h d_X7_told_17 ck_RX7_165 ?_
    refine pw_iret h hr d_X7_told_19 rfl (by decide) (by decide) ?_
    first | (refine pIf_f ?_ pRet_self; simp only [isBn, c_5, Bool.and_true, Bool.true_and, Bool.and_false, Bool.false_and]; done) | (refine pIf_f ?_ pRet_self; simp only [isBn, c_5, c_14, Bool.and_true, Bool.true_and, Bool.and_false, Bool.false_and]; done)
  · skip
    rw [bI_1, Bool.not_eq_false] at c_5
    refine pw_iload_n h 2 d_X7_told_8 rfl ?_
    refine pw_iconst (x := 0) h d_X7_told_9 (by decide) ?_
    refine pw_iconst (x := 3) h d_X7_told_10 (by decide) ?_
    refine pw_callS (As := [.int _, .int _, .int _]) h d_X7_told_11 mf_X7_isWithin st_yX7_isWithin ml_RX7_97 ⟨by decide, by decide, by decide⟩ rfl rfl (Nat.le_of_ble_eq_true rfl) c_X7_isWithin ?_
    refine PKk.ret ?_
    refine pw_if_ne 20 h d_X7_told_14 (by decide) (fun c_14 => ?_) (fun c_14 => ?_)
    · skip
      rw [bI_1, Bool.not_eq_false] at c_14
      have hx := isBn_ix (n := n) (N := 6) c_5 h6
      have hc : (isBn n b && isW w 0 3) = true := (by simp only [isBn, c_5, c_14, Bool.and_true, Bool.true_and, Bool.and_false, Bool.false_and])
      refine pw_iload_n h 2 d_X7_told_20 rfl ?_
      rcases k_four c_14 with hl | hl | hl | hl
      · skip
        refine pw_eqI (y := 0) hl ?_
        refine pw_tableIn (off := 27) 48 h d_X7_told_21 (by decide) (by decide) (by decide) (by decide) ?_
        refine pw_aload_n h 0 d_X7_told_48 rfl ?_
        refine pw_getR (j := 1) 7 h d_X7_told_49 fd_RX7_12 (by assumption) rfl (by assumption) ?_
        refine pw_getR (j := 2) 2 h d_X7_told_52 fd_RX7_166 (by assumption) rfl (by assumption) ?_
        refine pw_iload_n h 1 d_X7_told_55 rfl ?_
        refine pw_iald h d_X7_told_56 (by assumption) (by assumption) ?_
        refine pw_iret h hr d_X7_told_57 rfl (by decide) (by decide) ?_
        subst hl
        exact pIf_t hc pRet_self
      · skip
        refine pw_eqI (y := 1) hl ?_
        refine pw_tableIn (off := 37) 58 h d_X7_told_21 (by decide) (by decide) (by decide) (by decide) ?_
        refine pw_aload_n h 0 d_X7_told_58 rfl ?_
        refine pw_getR (j := 1) 7 h d_X7_told_59 fd_RX7_12 (by assumption) rfl (by assumption) ?_
        refine pw_getR (j := 3) 2 h d_X7_told_62 fd_RX7_122 (by assumption) rfl (by assumption) ?_
        refine pw_iload_n h 1 d_X7_told_65 rfl ?_
        refine pw_iald h d_X7_told_66 (by assumption) (by assumption) ?_
        refine pw_iret h hr d_X7_told_67 rfl (by decide) (by decide) ?_
        subst hl
        exact pIf_t hc pRet_self
      · skip
        refine pw_eqI (y := 2) hl ?_
        refine pw_tableIn (off := 47) 68 h d_X7_told_21 (by decide) (by decide) (by decide) (by decide) ?_
        refine pw_aload_n h 0 d_X7_told_68 rfl ?_
        refine pw_getR (j := 1) 7 h d_X7_told_69 fd_RX7_12 (by assumption) rfl (by assumption) ?_
        refine pw_getR (j := 4) 2 h d_X7_told_72 fd_RX7_169 (by assumption) rfl (by assumption) ?_
        refine pw_iload_n h 1 d_X7_told_75 rfl ?_
        refine pw_iald h d_X7_told_76 (by assumption) (by assumption) ?_
        refine pw_iret h hr d_X7_told_77 rfl (by decide) (by decide) ?_
        subst hl
        exact pIf_t hc pRet_self
      · skip
        refine pw_eqI (y := 3) hl ?_
        refine pw_tableOut 78 h d_X7_told_21 (by decide) (by decide) ?_
        refine pw_aload_n h 0 d_X7_told_78 rfl ?_
        refine pw_getR (j := 1) 7 h d_X7_told_79 fd_RX7_12 (by assumption) rfl (by assumption) ?_
        refine pw_getR (j := 5) 2 h d_X7_told_82 fd_RX7_172 (by assumption) rfl (by assumption) ?_
        refine pw_iload_n h 1 d_X7_told_85 rfl ?_
        refine pw_iald h d_X7_told_86 (by assumption) (by assumption) ?_
        refine pw_iret h hr d_X7_told_87 rfl (by decide) (by decide) ?_
        subst hl
        exact pIf_t hc pRet_self
    · skip
      rw [bI_1] at c_14
      refine pw_ldc h d_X7_told_17 ck_RX7_165 ?_
      refine pw_iret h hr d_X7_told_19 rfl (by decide) (by decide) ?_
      first | (refine pIf_f ?_ pRet_self; simp only [isBn, c_5, Bool.and_true, Bool.true_and, Bool.and_false, Bool.false_and]; done) | (refine pIf_f ?_ pRet_self; simp only [isBn, c_5, c_14, Bool.and_true, Bool.true_and, Bool.and_false, Bool.false_and]; done)

set_option maxHeartbeats 4000000 in
set_option maxRecDepth 100000 in
theorem c_X7_count {sh : Sh} {I : IM} {L : LM} {R : RM} (hC : ClassF sh R) {n : Nat} (hn : I 1 0 = nI n) (h6 : n ≤ 6) (w : Int32) : PMet M_X7_count [.ref 0, .int w] sh I L R (pRet (some (.int (cntA n (sumI (I 6) 13) (I 1 6) (cntP (I 6) 13) w))) sh I L R) := by
  refine PMet.of mf_X7_count (Nat.le_of_ble_eq_true rfl) ?_
  intro X h hr hml
  have hml : (xc X).maxLocals = 2 := hml
  have h : PXok X RX7 cX7_count 2 0 0 := h
  have hr : PXr X (some .int) "count" _ 0 0 := hr
  have hC0 := hC
  obtain ⟨k0, r0, r1, r2, r4, r5, r6, r7, r8, r13, r15, r16, hL, k7, r7s, k8s, k12, k20, r20s, hSs, k71, k72⟩ := hC
  have hL0 := hL
  obtain ⟨f0, f1, f2, f3, f4, f5, g1, g2, g3, g4, g5⟩ := hL
  show PW X 0 [(0, .ref 0), (1, .int w)] [] sh I L R 0 0
  refine pw_iload_n h 1 d_X7_count_0 rfl ?_
  rcases k_five w with hl | hl | hl | hl | hl
  · skip
    refine pw_eqI (y := 0) hl ?_
    refine pw_tableIn (off := 31) 32 h d_X7_count_1 (by decide) (by decide) (by decide) (by decide) ?_
    refine pw_aload_n h 0 d_X7_count_32 rfl ?_
    refine pw_getR (j := 1) 7 h d_X7_count_33 fd_RX7_12 (by assumption) rfl (by assumption) ?_
    refine pw_getI 2 h d_X7_count_36 fd_RX7_105 (by assumption) rfl ?_
    refine pw_iret h hr d_X7_count_39 rfl (by decide) (by decide) ?_
    subst hl
    rw [hn]
    exact pRet_self
  · skip
    refine pw_eqI (y := 1) hl ?_
    refine pw_tableIn (off := 39) 40 h d_X7_count_1 (by decide) (by decide) (by decide) (by decide) ?_
    refine pw_aload_n h 0 d_X7_count_40 rfl ?_
    refine pw_getR (j := 1) 7 h d_X7_count_41 fd_RX7_12 (by assumption) rfl (by assumption) ?_
    refine pw_callV (As := []) h d_X7_count_44 mf_X2_allWeights mi_X2_allWeights ml_RX7_175 ⟨by decide, by decide, by decide⟩ (by assumption) rfl rfl (Nat.le_of_ble_eq_true rfl) trivial (c_X2_allWeights hL0) ?_
    refine PKk.ret ?_
    refine pw_iret h hr d_X7_count_47 rfl (by decide) (by decide) ?_
    subst hl
    exact pRet_self
  · skip
    refine pw_eqI (y := 2) hl ?_
    refine pw_tableIn (off := 47) 48 h d_X7_count_1 (by decide) (by decide) (by decide) (by decide) ?_
    refine pw_aload_n h 0 d_X7_count_48 rfl ?_
    refine pw_getR (j := 1) 7 h d_X7_count_49 fd_RX7_12 (by assumption) rfl (by assumption) ?_
    refine pw_getI 2 h d_X7_count_52 fd_RX7_129 (by assumption) rfl ?_
    refine pw_iret h hr d_X7_count_55 rfl (by decide) (by decide) ?_
    subst hl
    exact pRet_self
  · skip
    refine pw_eqI (y := 3) hl ?_
    refine pw_tableIn (off := 55) 56 h d_X7_count_1 (by decide) (by decide) (by decide) (by decide) ?_
    refine pw_aload_n h 0 d_X7_count_56 rfl ?_
    refine pw_getR (j := 1) 7 h d_X7_count_57 fd_RX7_12 (by assumption) rfl (by assumption) ?_
    refine pw_callV (As := []) h d_X7_count_60 mf_X2_placesWithWeights mi_X2_placesWithWeights ml_RX7_179 ⟨by decide, by decide, by decide⟩ (by assumption) rfl rfl (Nat.le_of_ble_eq_true rfl) trivial (c_X2_placesWithWeights hL0) ?_
    refine PKk.ret ?_
    refine pw_iret h hr d_X7_count_63 rfl (by decide) (by decide) ?_
    subst hl
    exact pRet_self
  · skip
    refine pw_tableOut 64 h d_X7_count_1 hl (by decide) ?_
    refine pw_iconst (x := (-1)) h d_X7_count_64 (by decide) ?_
    refine pw_iret h hr d_X7_count_65 rfl (by decide) (by decide) ?_
    rw [cntA_out hl]
    exact pRet_self

set_option maxHeartbeats 4000000 in
set_option maxRecDepth 100000 in
theorem c_X7_closes {sh : Sh} {I : IM} {L : LM} {R : RM} (hC : ClassF sh R) {n : Nat} (hn : I 1 0 = nI n) (h6 : n ≤ 6) : PMet M_X7_closes [.ref 0] sh I L R (pRet (some (.int (closesS n (missI (sumI (I (1 + 5)) 13) (I (1 + 4)) n) (missM (momI (I (1 + 5)) 13) (I (1 + 1)) (I (1 + 4)) n) (I (1 + 1))))) sh I L R) := by
  refine PMet.of mf_X7_closes (Nat.le_of_ble_eq_true rfl) ?_
  intro X h hr hml
  have hml : (xc X).maxLocals = 2 := hml
  have h : PXok X RX7 cX7_closes 4 0 0 := h
  have hr : PXr X (some .int) "closes" _ 0 0 := hr
  have hC0 := hC
  obtain ⟨k0, r0, r1, r2, r4, r5, r6, r7, r8, r13, r15, r16, hL, k7, r7s, k8s, k12, k20, r20s, hSs, k71, k72⟩ := hC
  have hL0 := hL
  obtain ⟨f0, f1, f2, f3, f4, f5, g1, g2, g3, g4, g5⟩ := hL
  obtain ⟨D, hD⟩ : ∃ D, D = missI (sumI (I (1 + 5)) 13) (I (1 + 4)) n := ⟨_, rfl⟩
  obtain ⟨E, hE⟩ : ∃ E, E = missM (momI (I (1 + 5)) 13) (I (1 + 1)) (I (1 + 4)) n := ⟨_, rfl⟩
  rw [← hD, ← hE] at hr
  show PW X 0 [(0, .ref 0)] [] sh I L R 0 0
  refine pw_aload_n h 0 d_X7_closes_0 rfl ?_
  refine pw_getR (j := 1) 7 h d_X7_closes_1 fd_RX7_12 (by assumption) rfl (by assumption) ?_
  refine pw_getI 2 h d_X7_closes_4 fd_RX7_105 (by assumption) rfl ?_
  refine pw_if_ne 13 h d_X7_closes_7 (by decide) (fun c_7 => ?_) (fun c_7 => ?_)
  · skip
    have hn0 := k_n0 hn (by omega) c_7
    refine pw_aload_n h 0 d_X7_closes_13 rfl ?_
    refine pw_getR (j := 1) 7 h d_X7_closes_14 fd_RX7_12 (by assumption) rfl (by assumption) ?_
    refine pw_callV (As := []) h d_X7_closes_17 mf_X2_missing mi_X2_missing ml_RX7_273 ⟨by decide, by decide, by decide⟩ (by assumption) rfl rfl (Nat.le_of_ble_eq_true rfl) trivial (c_X2_missing hL0 hn h6) ?_
    refine PKk.ret ?_
    rw [← hD]
    have cut_37 : ∀ (N i : Nat) (v : Int32), ¬ (D = 0 ∧ E = 0) → n < i + N → i ≤ n → v = nI i → fstB (fun b => wrongB D E (I (1 + 1) b)) i = none → PW X 37 [(0, .ref 0), (1, .int v)] [] sh I L R 0 0 := by
      intro N
      induction N with
      | zero => intros; omega
      | succ N ih =>
        intro i v hde hN hi ev hs
        refine pw_iload_n h 1 d_X7_closes_37 rfl ?_
        refine pw_aload_n h 0 d_X7_closes_38 rfl ?_
        refine pw_getR (j := 1) 7 h d_X7_closes_39 fd_RX7_12 (by assumption) rfl (by assumption) ?_
        refine pw_getI 2 h d_X7_closes_42 fd_RX7_105 (by assumption) rfl ?_
        refine pw_icmp_ge 70 h d_X7_closes_45 (by decide) (fun c_45 => ?_) (fun c_45 => ?_)
        · skip
          have hge := k_ge ev (n := n) hn (by omega) (by omega) c_45
          have e : i = n := by omega
          subst e
          refine pw_iconst (x := 0) h d_X7_closes_70 (by decide) ?_
          refine pw_iret h hr d_X7_closes_71 rfl (by decide) (by decide) ?_
          exact ⟨by rw [closesS_3 hn0 hde hs], rfl, rfl, rfl, rfl⟩
        · skip
          have hlt := k_lt ev (n := n) hn (by omega) (by omega) c_45
          have hx := k_ix ev (Nat.lt_of_lt_of_le hlt (show n ≤ 6 by omega)) (by decide)
          refine pw_aload_n h 0 d_X7_closes_48 rfl ?_
          refine pw_getR (j := 1) 7 h d_X7_closes_49 fd_RX7_12 (by assumption) rfl (by assumption) ?_
          refine pw_iload_n h 1 d_X7_closes_52 rfl ?_
          refine pw_callV (As := [.int _]) h d_X7_closes_53 mf_X2_isWrong mi_X2_isWrong ml_RX7_279 ⟨by decide, by decide, by decide⟩ (by assumption) rfl rfl (Nat.le_of_ble_eq_true rfl) trivial (c_X2_isWrong hL0 hn h6 ev (Nat.lt_of_lt_of_le hlt h6)) ?_
          refine PKk.ret ?_
          rw [← hD, ← hE]
          refine pw_if_eq 64 h d_X7_closes_56 (by decide) (fun c_56 => ?_) (fun c_56 => ?_)
          · skip
            rw [bI_1] at c_56
            obtain ⟨v1_64, e1_64⟩ : ∃ z : Int32, z = v + (1) := ⟨_, rfl⟩
            refine pw_iinc (lv' := [(1, .int v1_64), (0, .ref 0)]) v1_64 h d_X7_closes_64 1 rfl e1_64.symm _ hml (by decide) rfl ?_
            refine pw_goto 37 h d_X7_closes_67 (by decide) ?_
            refine PW.perm [1, 0] rfl ?_
            exact ih (i + 1) v1_64 hde (by omega) (by omega) (k_up e1_64 ev) (fstB_no hs c_56)
          · skip
            rw [bI_1, Bool.not_eq_false] at c_56
            refine pw_bipush (x := 10) h d_X7_closes_59 (by decide) ?_
            refine pw_iload_n h 1 d_X7_closes_61 rfl ?_
            refine pw_iadd h d_X7_closes_62 ?_
            refine pw_iret h hr d_X7_closes_63 rfl (by decide) (by decide) ?_
            exact ⟨by rw [closesS_2 hn0 hde (fstB_at hs c_56 n hlt), ev], rfl, rfl, rfl, rfl⟩
    refine pw_if_ne 35 h d_X7_closes_20 (by decide) (fun c_20 => ?_) (fun c_20 => ?_)
    · skip
      refine pw_iconst (x := 0) h d_X7_closes_35 (by decide) ?_
      refine pw_nmI (fun v1_36 e1_36 => ?_)
      refine pw_istore_n (lv' := [(1, .int v1_36), (0, .ref 0)]) h d_X7_closes_36 rfl _ hml (by decide) rfl ?_
      refine PW.perm [1, 0] rfl ?_
      exact cut_37 (n + 1) 0 v1_36 (by first | exact fun q => c_20 q.1 | exact fun q => c_30 q.2) (by omega) (by omega) e1_36 rfl
    · skip
      refine pw_aload_n h 0 d_X7_closes_23 rfl ?_
      refine pw_getR (j := 1) 7 h d_X7_closes_24 fd_RX7_12 (by assumption) rfl (by assumption) ?_
      refine pw_callV (As := []) h d_X7_closes_27 mf_X2_missingMoment mi_X2_missingMoment ml_RX7_276 ⟨by decide, by decide, by decide⟩ (by assumption) rfl rfl (Nat.le_of_ble_eq_true rfl) trivial (c_X2_missingMoment hL0 hn h6) ?_
      refine PKk.ret ?_
      rw [← hE]
      refine pw_if_ne 35 h d_X7_closes_30 (by decide) (fun c_30 => ?_) (fun c_30 => ?_)
      · skip
        refine pw_iconst (x := 0) h d_X7_closes_35 (by decide) ?_
        refine pw_nmI (fun v1_36 e1_36 => ?_)
        refine pw_istore_n (lv' := [(1, .int v1_36), (0, .ref 0)]) h d_X7_closes_36 rfl _ hml (by decide) rfl ?_
        refine PW.perm [1, 0] rfl ?_
        exact cut_37 (n + 1) 0 v1_36 (by first | exact fun q => c_20 q.1 | exact fun q => c_30 q.2) (by omega) (by omega) e1_36 rfl
      · skip
        refine pw_iconst (x := 1) h d_X7_closes_33 (by decide) ?_
        refine pw_iret h hr d_X7_closes_34 rfl (by decide) (by decide) ?_
        exact ⟨by rw [closesS_1 hn0 ⟨c_20, c_30⟩], rfl, rfl, rfl, rfl⟩
  · skip
    have hn0 := k_is0 hn (by omega) c_7
    subst hn0
    refine pw_bipush (x := (-4)) h d_X7_closes_10 (by decide) ?_
    refine pw_iret h hr d_X7_closes_12 rfl (by decide) (by decide) ?_
    exact ⟨rfl, rfl, rfl, rfl, rfl⟩
