theorem c_X8_inW {v a b : Int32} {a' b' : Int64} (ha : a'.toInt = a.toInt) (hb : b'.toInt = b.toInt) {sh : Sh} {I : IM} {L : LM} {R : RM} : PMet M_X8_in [.long v.toInt64, .long a', .long b'] sh I L R (pRet (some (.int (bI (isW v a b)))) sh I L R) := by
  rw [← isWL_32 (v := v) ha hb]
  exact c_X8_in

set_option maxHeartbeats 4000000 in
set_option maxRecDepth 100000 in
theorem c_X8_puts {sh : Sh} {I : IM} {L : LM} {R : RM} {m n : Nat} (hM : ModF sh R m) (hn : I m 0 = nI n) (h6 : n ≤ 6) (hlt6 : n < 6) (p x : Int32) : PMet M_X8_puts [.ref m, .int p, .int x] sh I L R (pRet (some (.int (nI (insP (I (m + 1)) p n)))) sh (insM I m n p x) L R) := by
  refine PMet.of mf_X8_puts (Nat.le_of_ble_eq_true rfl) ?_
  intro X h hr hml
  have hml : (xc X).maxLocals = 4 := hml
  have h : PXok X RX8 cX8_puts 1 0 0 := h
  have hr : PXr X (some .int) "puts" _ 0 0 := hr
  have hM0 := hM
  obtain ⟨f0, f1, f2, f3, f4, f5, f6, f7, f8, f9, f10, f11, f12, f13, f14, f15, f16, f17, f18, f19, f20, f21, f22, f23, f24, f25, f26, f27, g1, g2, g3, g4, g5, g6, g7, g8, g9, g10, g11, g12, g13, g14, g15, g16, g17, g18, g19, g20, g21, g22, g23, g24, g25, g26, g27⟩ := hM
  show PW X 0 [(0, .ref m), (1, .int p), (2, .int x)] [] sh I L R 0 0
  refine pw_aload_n h 0 d_X8_puts_0 rfl ?_
  refine pw_getI 8 h d_X8_puts_1 fd_RX8_109 (by assumption) rfl ?_
  refine pw_nmI (fun v3_4 e3_4 => ?_)
  refine pw_istore_n (lv' := [(3, .int v3_4), (0, .ref m), (1, .int p), (2, .int x)]) h d_X8_puts_4 rfl _ hml (by decide) rfl ?_
  have cut_5 : ∀ (N t : Nat) (v : Int32), t < N → t ≤ n → v = nI t → insP (I (m + 1)) p t = insP (I (m + 1)) p n → PW X 5 [(0, .ref m), (1, .int p), (2, .int x), (3, .int v)] [] sh (m4 I m (shF (I (m + 1)) t n) (shF (I (m + 2)) t n) (shF (I (m + 3)) t n) (shF (I (m + 4)) t n)) L R 0 0 := by
    intro N
    induction N with
    | zero => intros; omega
    | succ N ih =>
      intro t v hN htn ev hq
      have hx : px_ix v 6 t := k_ix ev (by omega) (by decide)
      refine pw_iload_n h 3 d_X8_puts_5 rfl ?_
      refine pw_if_le 83 h d_X8_puts_6 (by decide) (fun c_6 => ?_) (fun c_6 => ?_)
      · skip
        have e0 := k_0 ev (by omega) c_6
        have hm : insP (I (m + 1)) p n = t := by rw [← hq, e0]; rfl
        refine pw_aload_n h 0 d_X8_puts_83 rfl ?_
        refine pw_getR (j := (m + 1)) 8 h d_X8_puts_84 fd_RX8_7 (by assumption) rfl (by assumption) ?_
        refine pw_iload_n h 3 d_X8_puts_87 rfl ?_
        refine pw_iload_n h 1 d_X8_puts_88 rfl ?_
        refine pw_iast h d_X8_puts_89 (by assumption) (by assumption) ?_
        refine pw_aload_n h 0 d_X8_puts_90 rfl ?_
        refine pw_getR (j := (m + 2)) 8 h d_X8_puts_91 fd_RX8_13 (by assumption) rfl (by assumption) ?_
        refine pw_iload_n h 3 d_X8_puts_94 rfl ?_
        refine pw_iload_n h 2 d_X8_puts_95 rfl ?_
        refine pw_iast h d_X8_puts_96 (by assumption) (by assumption) ?_
        refine pw_aload_n h 0 d_X8_puts_97 rfl ?_
        refine pw_getR (j := (m + 3)) 8 h d_X8_puts_98 fd_RX8_16 (by assumption) rfl (by assumption) ?_
        refine pw_iload_n h 3 d_X8_puts_101 rfl ?_
        refine pw_iconst (x := 0) h d_X8_puts_102 (by decide) ?_
        refine pw_iast h d_X8_puts_103 (by assumption) (by assumption) ?_
        refine pw_aload_n h 0 d_X8_puts_104 rfl ?_
        refine pw_getR (j := (m + 4)) 8 h d_X8_puts_105 fd_RX8_19 (by assumption) rfl (by assumption) ?_
        refine pw_iload_n h 3 d_X8_puts_108 rfl ?_
        refine pw_iconst (x := 0) h d_X8_puts_109 (by decide) ?_
        refine pw_iast h d_X8_puts_110 (by assumption) (by assumption) ?_
        refine pw_aload_n h 0 d_X8_puts_111 rfl ?_
        refine pw_dupR h d_X8_puts_112 ?_
        refine pw_getI 8 h d_X8_puts_113 fd_RX8_109 (by assumption) rfl ?_
        refine pw_iconst (x := 1) h d_X8_puts_116 (by decide) ?_
        refine pw_iadd h d_X8_puts_117 ?_
        refine pw_putI 8 h d_X8_puts_118 fd_RX8_109 (by assumption) rfl rfl rfl rfl ?_
        refine pw_iload_n h 3 d_X8_puts_121 rfl ?_
        refine pw_iret h hr d_X8_puts_122 rfl (by decide) (by decide) ?_
        refine ⟨by rw [ev, hm], rfl, ?_, rfl, rfl⟩
        unfold insM
        rw [hm, m4_set]
        simp only [u2_n1 (show m ≠ m + 4 by omega), u2_n1 (show m ≠ m + 3 by omega), u2_n1 (show m ≠ m + 2 by omega), u2_n1 (show m ≠ m + 1 by omega), m4_0, hn, nI_1]
        rfl
      · skip
        have ht0 := k_p ev (by omega) c_6
        have hx1 : px_ix (v - 1) 6 (t - 1) := by rw [k_dn1 ev ht0]; exact px_ix_nI (by omega) (by decide)
        refine pw_aload_n h 0 d_X8_puts_9 rfl ?_
        refine pw_getR (j := (m + 1)) 8 h d_X8_puts_10 fd_RX8_7 (by assumption) rfl (by assumption) ?_
        refine pw_iload_n h 3 d_X8_puts_13 rfl ?_
        refine pw_iconst (x := 1) h d_X8_puts_14 (by decide) ?_
        refine pw_isub h d_X8_puts_15 ?_
        refine pw_iald h d_X8_puts_16 (by assumption) (by assumption) ?_
        refine pw_iload_n h 1 d_X8_puts_17 rfl ?_
        refine pw_icmp_le 83 h d_X8_puts_18 (by decide) (fun c_18 => ?_) (fun c_18 => ?_)
        · skip
          rw [m4_1] at c_18
          have hsh : shF (I (m + 1)) t n (t - 1) = I (m + 1) (t - 1) := by unfold shF; rw [if_neg (by omega)]
          rw [hsh] at c_18
          have hm : insP (I (m + 1)) p n = t := by rw [← hq]; obtain ⟨j, rfl⟩ : ∃ j, t = j + 1 := ⟨t - 1, by omega⟩; simp only [insP]; rw [if_neg (by rw [Int32.lt_iff_toInt_lt]; rw [Int32.le_iff_toInt_le] at c_18; simp only [Nat.add_sub_cancel] at c_18; omega)]
          refine pw_aload_n h 0 d_X8_puts_83 rfl ?_
          refine pw_getR (j := (m + 1)) 8 h d_X8_puts_84 fd_RX8_7 (by assumption) rfl (by assumption) ?_
          refine pw_iload_n h 3 d_X8_puts_87 rfl ?_
          refine pw_iload_n h 1 d_X8_puts_88 rfl ?_
          refine pw_iast h d_X8_puts_89 (by assumption) (by assumption) ?_
          refine pw_aload_n h 0 d_X8_puts_90 rfl ?_
          refine pw_getR (j := (m + 2)) 8 h d_X8_puts_91 fd_RX8_13 (by assumption) rfl (by assumption) ?_
          refine pw_iload_n h 3 d_X8_puts_94 rfl ?_
          refine pw_iload_n h 2 d_X8_puts_95 rfl ?_
          refine pw_iast h d_X8_puts_96 (by assumption) (by assumption) ?_
          refine pw_aload_n h 0 d_X8_puts_97 rfl ?_
          refine pw_getR (j := (m + 3)) 8 h d_X8_puts_98 fd_RX8_16 (by assumption) rfl (by assumption) ?_
          refine pw_iload_n h 3 d_X8_puts_101 rfl ?_
          refine pw_iconst (x := 0) h d_X8_puts_102 (by decide) ?_
          refine pw_iast h d_X8_puts_103 (by assumption) (by assumption) ?_
          refine pw_aload_n h 0 d_X8_puts_104 rfl ?_
          refine pw_getR (j := (m + 4)) 8 h d_X8_puts_105 fd_RX8_19 (by assumption) rfl (by assumption) ?_
          refine pw_iload_n h 3 d_X8_puts_108 rfl ?_
          refine pw_iconst (x := 0) h d_X8_puts_109 (by decide) ?_
          refine pw_iast h d_X8_puts_110 (by assumption) (by assumption) ?_
          refine pw_aload_n h 0 d_X8_puts_111 rfl ?_
          refine pw_dupR h d_X8_puts_112 ?_
          refine pw_getI 8 h d_X8_puts_113 fd_RX8_109 (by assumption) rfl ?_
          refine pw_iconst (x := 1) h d_X8_puts_116 (by decide) ?_
          refine pw_iadd h d_X8_puts_117 ?_
          refine pw_putI 8 h d_X8_puts_118 fd_RX8_109 (by assumption) rfl rfl rfl rfl ?_
          refine pw_iload_n h 3 d_X8_puts_121 rfl ?_
          refine pw_iret h hr d_X8_puts_122 rfl (by decide) (by decide) ?_
          refine ⟨by rw [ev, hm], rfl, ?_, rfl, rfl⟩
          unfold insM
          rw [hm, m4_set]
          simp only [u2_n1 (show m ≠ m + 4 by omega), u2_n1 (show m ≠ m + 3 by omega), u2_n1 (show m ≠ m + 2 by omega), u2_n1 (show m ≠ m + 1 by omega), m4_0, hn, nI_1]
          rfl
        · skip
          rw [m4_1] at c_18
          have hsh : shF (I (m + 1)) t n (t - 1) = I (m + 1) (t - 1) := by unfold shF; rw [if_neg (by omega)]
          rw [hsh] at c_18
          have hgt : p < I (m + 1) (t - 1) := by rw [Int32.lt_iff_toInt_lt]; rw [Int32.le_iff_toInt_le] at c_18; omega
          refine pw_aload_n h 0 d_X8_puts_21 rfl ?_
          refine pw_getR (j := (m + 1)) 8 h d_X8_puts_22 fd_RX8_7 (by assumption) rfl (by assumption) ?_
          refine pw_iload_n h 3 d_X8_puts_25 rfl ?_
          refine pw_aload_n h 0 d_X8_puts_26 rfl ?_
          refine pw_getR (j := (m + 1)) 8 h d_X8_puts_27 fd_RX8_7 (by assumption) rfl (by assumption) ?_
          refine pw_iload_n h 3 d_X8_puts_30 rfl ?_
          refine pw_iconst (x := 1) h d_X8_puts_31 (by decide) ?_
          refine pw_isub h d_X8_puts_32 ?_
          refine pw_iald h d_X8_puts_33 (by assumption) (by assumption) ?_
          refine pw_iast h d_X8_puts_34 (by assumption) (by assumption) ?_
          refine pw_aload_n h 0 d_X8_puts_35 rfl ?_
          refine pw_getR (j := (m + 2)) 8 h d_X8_puts_36 fd_RX8_13 (by assumption) rfl (by assumption) ?_
          refine pw_iload_n h 3 d_X8_puts_39 rfl ?_
          refine pw_aload_n h 0 d_X8_puts_40 rfl ?_
          refine pw_getR (j := (m + 2)) 8 h d_X8_puts_41 fd_RX8_13 (by assumption) rfl (by assumption) ?_
          refine pw_iload_n h 3 d_X8_puts_44 rfl ?_
          refine pw_iconst (x := 1) h d_X8_puts_45 (by decide) ?_
          refine pw_isub h d_X8_puts_46 ?_
          refine pw_iald h d_X8_puts_47 (by assumption) (by assumption) ?_
          refine pw_iast h d_X8_puts_48 (by assumption) (by assumption) ?_
          refine pw_aload_n h 0 d_X8_puts_49 rfl ?_
          refine pw_getR (j := (m + 3)) 8 h d_X8_puts_50 fd_RX8_16 (by assumption) rfl (by assumption) ?_
          refine pw_iload_n h 3 d_X8_puts_53 rfl ?_
          refine pw_aload_n h 0 d_X8_puts_54 rfl ?_
          refine pw_getR (j := (m + 3)) 8 h d_X8_puts_55 fd_RX8_16 (by assumption) rfl (by assumption) ?_
          refine pw_iload_n h 3 d_X8_puts_58 rfl ?_
          refine pw_iconst (x := 1) h d_X8_puts_59 (by decide) ?_
          refine pw_isub h d_X8_puts_60 ?_
          refine pw_iald h d_X8_puts_61 (by assumption) (by assumption) ?_
          refine pw_iast h d_X8_puts_62 (by assumption) (by assumption) ?_
          refine pw_aload_n h 0 d_X8_puts_63 rfl ?_
          refine pw_getR (j := (m + 4)) 8 h d_X8_puts_64 fd_RX8_19 (by assumption) rfl (by assumption) ?_
          refine pw_iload_n h 3 d_X8_puts_67 rfl ?_
          refine pw_aload_n h 0 d_X8_puts_68 rfl ?_
          refine pw_getR (j := (m + 4)) 8 h d_X8_puts_69 fd_RX8_19 (by assumption) rfl (by assumption) ?_
          refine pw_iload_n h 3 d_X8_puts_72 rfl ?_
          refine pw_iconst (x := 1) h d_X8_puts_73 (by decide) ?_
          refine pw_isub h d_X8_puts_74 ?_
          refine pw_iald h d_X8_puts_75 (by assumption) (by assumption) ?_
          refine pw_iast h d_X8_puts_76 (by assumption) (by assumption) ?_
          obtain ⟨v3_77, e3_77⟩ : ∃ z : Int32, z = v + (-1) := ⟨_, rfl⟩
          refine pw_iinc (lv' := [(3, .int v3_77), (0, .ref m), (1, .int p), (2, .int x)]) v3_77 h d_X8_puts_77 3 rfl e3_77.symm _ hml (by decide) rfl ?_
          refine pw_goto 5 h d_X8_puts_80 (by decide) ?_
          refine PW.perm [1, 2, 3, 0] rfl ?_
          refine pw_mem ?_ rfl rfl (ih (t - 1) v3_77 (by omega) (by omega) (k_dn e3_77 ev ht0) (by rw [← hq, show t = (t - 1) + 1 by omega]; simp only [insP]; rw [if_pos hgt]; rfl))
          rw [m4_set]
          simp only [u2_n1 (show m + 1 ≠ m + 2 by omega), u2_n1 (show m + 1 ≠ m + 3 by omega), u2_n1 (show m + 1 ≠ m + 4 by omega), u2_n1 (show m + 2 ≠ m + 1 by omega), u2_n1 (show m + 2 ≠ m + 3 by omega), u2_n1 (show m + 2 ≠ m + 4 by omega), u2_n1 (show m + 3 ≠ m + 1 by omega), u2_n1 (show m + 3 ≠ m + 2 by omega), u2_n1 (show m + 3 ≠ m + 4 by omega), u2_n1 (show m + 4 ≠ m + 1 by omega), u2_n1 (show m + 4 ≠ m + 2 by omega), u2_n1 (show m + 4 ≠ m + 3 by omega), m4_1, m4_2, m4_3, m4_4]
          rw [shF_s ht0 htn, shF_s ht0 htn, shF_s ht0 htn, shF_s ht0 htn]
  refine PW.perm [1, 2, 3, 0] rfl ?_
  refine pw_mem (by rw [shF_0, shF_0, shF_0, shF_0, m4_self]) rfl rfl (cut_5 (n + 1) n v3_4 (by omega) (by omega) (by rw [e3_4, hn]) rfl)

set_option maxHeartbeats 4000000 in
set_option maxRecDepth 100000 in
theorem c_X8_bearing {sh : Sh} {I : IM} {L : LM} {R : RM} {m n : Nat} (hM : ModF sh R m) (hn : I m 0 = nI n) (h6 : n ≤ 6) (p v : Int32) : PMet M_X8_bearing [.ref m, .int p, .int v] sh I L R (pIf (isW p 0 12 && isW v (-50) 50) (pIf (srch (I (m + 1)) p n).isNone (pIf (decide (n < 6)) (pRet (some (.int (nI (insP (I (m + 1)) p n)))) sh (insM I m n p v) L R) (pRet (some (.int (-3))) sh I L R)) (pRet (some (.int (-2))) sh I L R)) (pRet (some (.int (-1))) sh I L R)) := by
  refine PMet.of mf_X8_bearing (Nat.le_of_ble_eq_true rfl) ?_
  intro X h hr hml
  have hml : (xc X).maxLocals = 3 := hml
  have h : PXok X RX8 cX8_bearing 3 0 0 := h
  have hr : PXr X (some .int) "bearing" _ 0 0 := hr
  have hM0 := hM
  obtain ⟨f0, f1, f2, f3, f4, f5, f6, f7, f8, f9, f10, f11, f12, f13, f14, f15, f16, f17, f18, f19, f20, f21, f22, f23, f24, f25, f26, f27, g1, g2, g3, g4, g5, g6, g7, g8, g9, g10, g11, g12, g13, g14, g15, g16, g17, g18, g19, g20, g21, g22, g23, g24, g25, g26, g27⟩ := hM
  show PW X 0 [(0, .ref m), (1, .int p), (2, .int v)] [] sh I L R 0 0
  refine pw_iload_n h 1 d_X8_bearing_0 rfl ?_
  refine pw_callS (As := [.int _]) h d_X8_bearing_1 mf_X8_isPlace st_yX8_isPlace ml_RX8_112 ⟨by decide, by decide, by decide⟩ rfl rfl (Nat.le_of_ble_eq_true rfl) c_X8_isPlace ?_
  refine PKk.ret ?_
  refine pw_if_eq 21 h d_X8_bearing_4 (by decide) (fun c_4 => ?_) (fun c_4 => ?_)
  · skip
    rw [bI_1] at c_4
    refine pw_iconst (x := (-1)) h d_X8_bearing_21 (by decide) ?_
    refine pw_iret h hr d_X8_bearing_22 rfl (by decide) (by decide) ?_
    first | (refine pIf_f ?_ pRet_self; simp only [isBn, c_4, Bool.and_true, Bool.true_and, Bool.and_false, Bool.false_and]; done) | (refine pIf_f ?_ pRet_self; simp only [isBn, c_4, c_18, Bool.and_true, Bool.true_and, Bool.and_false, Bool.false_and]; done)
  · skip
    rw [bI_1, Bool.not_eq_false] at c_4
    refine pw_iload_n h 2 d_X8_bearing_7 rfl ?_
    refine pw_i2l h d_X8_bearing_8 ?_
    refine pw_ldc2 h d_X8_bearing_9 ck_RX8_116 ?_
    refine pw_ldc2 h d_X8_bearing_12 ck_RX8_118 ?_
    refine pw_callS (As := [.long _, .long _, .long _]) h d_X8_bearing_15 mf_X8_in st_yX8_in ml_RX8_105 ⟨by decide, by decide, by decide⟩ rfl rfl (Nat.le_of_ble_eq_true rfl) (c_X8_inW (a := -50) (b := 50) rfl rfl) ?_
    refine PKk.ret ?_
    refine pw_if_ne 23 h d_X8_bearing_18 (by decide) (fun c_18 => ?_) (fun c_18 => ?_)
    · skip
      rw [bI_1, Bool.not_eq_false] at c_18
      refine pw_aload_n h 0 d_X8_bearing_23 rfl ?_
      refine pw_iload_n h 1 d_X8_bearing_24 rfl ?_
      refine pw_callV (As := [.int _]) h d_X8_bearing_25 mf_X8_bearingAt mi_X8_bearingAt ml_RX8_120 ⟨by decide, by decide, by decide⟩ (by assumption) rfl rfl (Nat.le_of_ble_eq_true rfl) trivial (c_X8_bearingAt hM0 hn h6 p) ?_
      refine PKk.ret ?_
      refine pw_if_lt 34 h d_X8_bearing_28 (by decide) (fun c_28 => ?_) (fun c_28 => ?_)
      · skip
        refine pw_aload_n h 0 d_X8_bearing_34 rfl ?_
        refine pw_getI 8 h d_X8_bearing_35 fd_RX8_109 (by assumption) rfl ?_
        refine pw_bipush (x := 6) h d_X8_bearing_38 (by decide) ?_
        refine pw_icmp_ne 48 h d_X8_bearing_40 (by decide) (fun c_40 => ?_) (fun c_40 => ?_)
        · skip
          refine pw_aload_n h 0 d_X8_bearing_48 rfl ?_
          refine pw_iload_n h 1 d_X8_bearing_49 rfl ?_
          refine pw_iload_n h 2 d_X8_bearing_50 rfl ?_
          refine pw_callV (As := [.int _, .int _]) h d_X8_bearing_51 mf_X8_puts mi_X8_puts ml_RX8_124 ⟨by decide, by decide, by decide⟩ (by assumption) rfl rfl (Nat.le_of_ble_eq_true rfl) trivial (c_X8_puts hM0 hn h6 (lt_of_ne6 hn h6 c_40) p v) ?_
          refine PKk.ret ?_
          refine pw_iret h hr d_X8_bearing_54 rfl (by decide) (by decide) ?_
          have c_28 : (srch (I (m + 1)) p n).isNone = true := by rw [srch_neg (show n < 2 ^ 31 by omega) (show ((-4 : Int32)).toInt < 0 by decide)] at c_28; exact c_28
          first | exact pIf_t (by simp only [isBn, c_4, c_18, Bool.and_true, Bool.true_and, Bool.and_false, Bool.false_and]) (pIf_t c_28 (pIf_f (nlt_of_eq6 hn h6 c_40) pRet_self)) | exact pIf_t (by simp only [isBn, c_4, c_18, Bool.and_true, Bool.true_and, Bool.and_false, Bool.false_and]) (pIf_t c_28 (pIf_t (decide_eq_true (lt_of_ne6 hn h6 c_40)) pRet_self))
        · skip
          refine pw_bipush (x := (-3)) h d_X8_bearing_43 (by decide) ?_
          refine pw_goto 54 h d_X8_bearing_45 (by decide) ?_
          refine pw_iret h hr d_X8_bearing_54 rfl (by decide) (by decide) ?_
          have c_28 : (srch (I (m + 1)) p n).isNone = true := by rw [srch_neg (show n < 2 ^ 31 by omega) (show ((-4 : Int32)).toInt < 0 by decide)] at c_28; exact c_28
          first | exact pIf_t (by simp only [isBn, c_4, c_18, Bool.and_true, Bool.true_and, Bool.and_false, Bool.false_and]) (pIf_t c_28 (pIf_f (nlt_of_eq6 hn h6 c_40) pRet_self)) | exact pIf_t (by simp only [isBn, c_4, c_18, Bool.and_true, Bool.true_and, Bool.and_false, Bool.false_and]) (pIf_t c_28 (pIf_t (decide_eq_true (lt_of_ne6 hn h6 c_40)) pRet_self))
      · skip
        refine pw_bipush (x := (-2)) h d_X8_bearing_31 (by decide) ?_
        refine pw_iret h hr d_X8_bearing_33 rfl (by decide) (by decide) ?_
        exact pIf_t (by simp only [isBn, c_4, c_18, Bool.and_true, Bool.true_and, Bool.and_false, Bool.false_and]) (pIf_f (by simp only [srch_neg (show n < 2 ^ 31 by omega) (show ((-4 : Int32)).toInt < 0 by decide), Bool.not_eq_true] at c_28; exact c_28) pRet_self)
    · skip
      rw [bI_1] at c_18
      refine pw_iconst (x := (-1)) h d_X8_bearing_21 (by decide) ?_
      refine pw_iret h hr d_X8_bearing_22 rfl (by decide) (by decide) ?_
      first | (refine pIf_f ?_ pRet_self; simp only [isBn, c_4, Bool.and_true, Bool.true_and, Bool.and_false, Bool.false_and]; done) | (refine pIf_f ?_ pRet_self; simp only [isBn, c_4, c_18, Bool.and_true, Bool.true_and, Bool.and_false, Bool.false_and]; done)

set_option maxHeartbeats 4000000 in
set_option maxRecDepth 100000 in
theorem c_X8_offset {sh : Sh} {I : IM} {L : LM} {R : RM} {m n : Nat} (hM : ModF sh R m) (hn : I m 0 = nI n) (h6 : n ≤ 6) (b v : Int32) : PMet M_X8_offset [.ref m, .int b, .int v] sh I L R (pIf (isBn n b && isW v (-50) 50) (pRet (some (.int (I (m + 2) b.toNatClampNeg))) sh (u2 I (m + 2) b.toNatClampNeg v) L R) (pRet (some (.int (-101))) sh I L R)) := by
  refine PMet.of mf_X8_offset (Nat.le_of_ble_eq_true rfl) ?_
  intro X h hr hml
  have hml : (xc X).maxLocals = 4 := hml
  have h : PXok X RX8 cX8_offset 3 0 0 := h
  have hr : PXr X (some .int) "offset" _ 0 0 := hr
  have hM0 := hM
  obtain ⟨f0, f1, f2, f3, f4, f5, f6, f7, f8, f9, f10, f11, f12, f13, f14, f15, f16, f17, f18, f19, f20, f21, f22, f23, f24, f25, f26, f27, g1, g2, g3, g4, g5, g6, g7, g8, g9, g10, g11, g12, g13, g14, g15, g16, g17, g18, g19, g20, g21, g22, g23, g24, g25, g26, g27⟩ := hM
  show PW X 0 [(0, .ref m), (1, .int b), (2, .int v)] [] sh I L R 0 0
  refine pw_aload_n h 0 d_X8_offset_0 rfl ?_
  refine pw_iload_n h 1 d_X8_offset_1 rfl ?_
  refine pw_callV (As := [.int _]) h d_X8_offset_2 mf_X8_isBearing mi_X8_isBearing ml_RX8_128 ⟨by decide, by decide, by decide⟩ (by assumption) rfl rfl (Nat.le_of_ble_eq_true rfl) trivial (c_X8_isBearing hM0 hn h6) ?_
  refine PKk.ret ?_
  refine pw_if_eq 22 h d_X8_offset_5 (by decide) (fun c_5 => ?_) (fun c_5 => ?_)
  · skip
    rw [bI_1] at c_5
    refine pw_bipush (x := (-101)) h d_X8_offset_22 (by decide) ?_
    refine pw_iret h hr d_X8_offset_24 rfl (by decide) (by decide) ?_
    first | (refine pIf_f ?_ pRet_self; simp only [isBn, c_5, Bool.and_true, Bool.true_and, Bool.and_false, Bool.false_and]; done) | (refine pIf_f ?_ pRet_self; simp only [isBn, c_5, c_19, Bool.and_true, Bool.true_and, Bool.and_false, Bool.false_and]; done)
  · skip
    rw [bI_1, Bool.not_eq_false] at c_5
    refine pw_iload_n h 2 d_X8_offset_8 rfl ?_
    refine pw_i2l h d_X8_offset_9 ?_
    refine pw_ldc2 h d_X8_offset_10 ck_RX8_116 ?_
    refine pw_ldc2 h d_X8_offset_13 ck_RX8_118 ?_
    refine pw_callS (As := [.long _, .long _, .long _]) h d_X8_offset_16 mf_X8_in st_yX8_in ml_RX8_105 ⟨by decide, by decide, by decide⟩ rfl rfl (Nat.le_of_ble_eq_true rfl) (c_X8_inW (a := -50) (b := 50) rfl rfl) ?_
    refine PKk.ret ?_
    refine pw_if_ne 25 h d_X8_offset_19 (by decide) (fun c_19 => ?_) (fun c_19 => ?_)
    · skip
      rw [bI_1, Bool.not_eq_false] at c_19
      have hx := isBn_ix (n := n) (N := 6) c_5 h6
      refine pw_aload_n h 0 d_X8_offset_25 rfl ?_
      refine pw_getR (j := (m + 2)) 8 h d_X8_offset_26 fd_RX8_13 (by assumption) rfl (by assumption) ?_
      refine pw_iload_n h 1 d_X8_offset_29 rfl ?_
      refine pw_iald h d_X8_offset_30 (by assumption) (by assumption) ?_
      refine pw_nmI (fun v3_31 e3_31 => ?_)
      refine pw_istore_n (lv' := [(3, .int v3_31), (0, .ref m), (1, .int b), (2, .int v)]) h d_X8_offset_31 rfl _ hml (by decide) rfl ?_
      refine pw_aload_n h 1 d_X8_offset_32 rfl ?_
      refine pw_getR (j := (m + 2)) 8 h d_X8_offset_33 fd_RX8_13 (by assumption) rfl (by assumption) ?_
      refine pw_iload_n h 2 d_X8_offset_36 rfl ?_
      refine pw_iload_n h 3 d_X8_offset_37 rfl ?_
      refine pw_iast h d_X8_offset_38 (by assumption) (by assumption) ?_
      refine pw_iload_n h 0 d_X8_offset_39 rfl ?_
      refine pw_iret h hr d_X8_offset_40 rfl (by decide) (by decide) ?_
      rw [e3_31]
      exact pIf_t (by simp only [isBn, c_5, c_19, Bool.and_true, Bool.true_and, Bool.and_false, Bool.false_and]) pRet_self
    · skip
      rw [bI_1] at c_19
      refine pw_bipush (x := (-101)) h d_X8_offset_22 (by decide) ?_
      refine pw_iret h hr d_X8_offset_24 rfl (by decide) (by decide) ?_
      first | (refine pIf_f ?_ pRet_self; simp only [isBn, c_5, Bool.and_true, Bool.true_and, Bool.and_false, Bool.false_and]; done) | (refine pIf_f ?_ pRet_self; simp only [isBn, c_5, c_19, Bool.and_true, Bool.true_and, Bool.and_false, Bool.false_and]; done)

set_option maxHeartbeats 4000000 in
set_option maxRecDepth 100000 in
theorem c_X8_reading {sh : Sh} {I : IM} {L : LM} {R : RM} {m n : Nat} (hM : ModF sh R m) (hn : I m 0 = nI n) (h6 : n ≤ 6) (b v : Int32) : PMet M_X8_reading [.ref m, .int b, .int v] sh I L R (pIf (isBn n b && isW v 0 600) (pRet (some (.int (I (m + 4) b.toNatClampNeg))) sh (u2 I (m + 4) b.toNatClampNeg v) L R) (pRet (some (.int (-1))) sh I L R)) := by
  refine PMet.of mf_X8_reading (Nat.le_of_ble_eq_true rfl) ?_
  intro X h hr hml
  have hml : (xc X).maxLocals = 4 := hml
  have h : PXok X RX8 cX8_reading 3 0 0 := h
  have hr : PXr X (some .int) "reading" _ 0 0 := hr
  have hM0 := hM
  obtain ⟨f0, f1, f2, f3, f4, f5, f6, f7, f8, f9, f10, f11, f12, f13, f14, f15, f16, f17, f18, f19, f20, f21, f22, f23, f24, f25, f26, f27, g1, g2, g3, g4, g5, g6, g7, g8, g9, g10, g11, g12, g13, g14, g15, g16, g17, g18, g19, g20, g21, g22, g23, g24, g25, g26, g27⟩ := hM
  show PW X 0 [(0, .ref m), (1, .int b), (2, .int v)] [] sh I L R 0 0
  refine pw_aload_n h 0 d_X8_reading_0 rfl ?_
  refine pw_iload_n h 1 d_X8_reading_1 rfl ?_
  refine pw_callV (As := [.int _]) h d_X8_reading_2 mf_X8_isBearing mi_X8_isBearing ml_RX8_128 ⟨by decide, by decide, by decide⟩ (by assumption) rfl rfl (Nat.le_of_ble_eq_true rfl) trivial (c_X8_isBearing hM0 hn h6) ?_
  refine PKk.ret ?_
  refine pw_if_eq 20 h d_X8_reading_5 (by decide) (fun c_5 => ?_) (fun c_5 => ?_)
  · skip
    rw [bI_1] at c_5
    refine pw_iconst (x := (-1)) h d_X8_reading_20 (by decide) ?_
    refine pw_iret h hr d_X8_reading_21 rfl (by decide) (by decide) ?_
    first | (refine pIf_f ?_ pRet_self; simp only [isBn, c_5, Bool.and_true, Bool.true_and, Bool.and_false, Bool.false_and]; done) | (refine pIf_f ?_ pRet_self; simp only [isBn, c_5, c_17, Bool.and_true, Bool.true_and, Bool.and_false, Bool.false_and]; done)
  · skip
    rw [bI_1, Bool.not_eq_false] at c_5
    refine pw_iload_n h 2 d_X8_reading_8 rfl ?_
    refine pw_i2l h d_X8_reading_9 ?_
    refine pw_lconst (x := 0) h d_X8_reading_10 (by decide) ?_
    refine pw_ldc2 h d_X8_reading_11 ck_RX8_324 ?_
    refine pw_callS (As := [.long _, .long _, .long _]) h d_X8_reading_14 mf_X8_in st_yX8_in ml_RX8_105 ⟨by decide, by decide, by decide⟩ rfl rfl (Nat.le_of_ble_eq_true rfl) (c_X8_inW (a := 0) (b := 600) rfl rfl) ?_
    refine PKk.ret ?_
    refine pw_if_ne 22 h d_X8_reading_17 (by decide) (fun c_17 => ?_) (fun c_17 => ?_)
    · skip
      rw [bI_1, Bool.not_eq_false] at c_17
      have hx := isBn_ix (n := n) (N := 6) c_5 h6
      refine pw_aload_n h 0 d_X8_reading_22 rfl ?_
      refine pw_getR (j := (m + 4)) 8 h d_X8_reading_23 fd_RX8_19 (by assumption) rfl (by assumption) ?_
      refine pw_iload_n h 1 d_X8_reading_26 rfl ?_
      refine pw_iald h d_X8_reading_27 (by assumption) (by assumption) ?_
      refine pw_nmI (fun v3_28 e3_28 => ?_)
      refine pw_istore_n (lv' := [(3, .int v3_28), (0, .ref m), (1, .int b), (2, .int v)]) h d_X8_reading_28 rfl _ hml (by decide) rfl ?_
      refine pw_aload_n h 1 d_X8_reading_29 rfl ?_
      refine pw_getR (j := (m + 4)) 8 h d_X8_reading_30 fd_RX8_19 (by assumption) rfl (by assumption) ?_
      refine pw_iload_n h 2 d_X8_reading_33 rfl ?_
      refine pw_iload_n h 3 d_X8_reading_34 rfl ?_
      refine pw_iast h d_X8_reading_35 (by assumption) (by assumption) ?_
      refine pw_iload_n h 0 d_X8_reading_36 rfl ?_
      refine pw_iret h hr d_X8_reading_37 rfl (by decide) (by decide) ?_
      rw [e3_28]
      exact pIf_t (by simp only [isBn, c_5, c_17, Bool.and_true, Bool.true_and, Bool.and_false, Bool.false_and]) pRet_self
    · skip
      rw [bI_1] at c_17
      refine pw_iconst (x := (-1)) h d_X8_reading_20 (by decide) ?_
      refine pw_iret h hr d_X8_reading_21 rfl (by decide) (by decide) ?_
      first | (refine pIf_f ?_ pRet_self; simp only [isBn, c_5, Bool.and_true, Bool.true_and, Bool.and_false, Bool.false_and]; done) | (refine pIf_f ?_ pRet_self; simp only [isBn, c_5, c_17, Bool.and_true, Bool.true_and, Bool.and_false, Bool.false_and]; done)

set_option maxHeartbeats 4000000 in
set_option maxRecDepth 100000 in
theorem c_X8_bounds {sh : Sh} {I : IM} {L : LM} {R : RM} {m n : Nat} (hM : ModF sh R m) (hn : I m 0 = nI n) (h6 : n ≤ 6) (a b : Int32) : PMet M_X8_bounds [.ref m, .int a, .int b] sh I L R (pIf (isW a 0 600 && isW b a 600) (pRet (some (.int 1)) sh (u2 (u2 I m 37 a) m 38 b) L R) (pRet (some (.int (-1))) sh I L R)) := by
  refine PMet.of mf_X8_bounds (Nat.le_of_ble_eq_true rfl) ?_
  intro X h hr hml
  have hml : (xc X).maxLocals = 3 := hml
  have h : PXok X RX8 cX8_bounds 2 0 0 := h
  have hr : PXr X (some .int) "bounds" _ 0 0 := hr
  have hM0 := hM
  obtain ⟨f0, f1, f2, f3, f4, f5, f6, f7, f8, f9, f10, f11, f12, f13, f14, f15, f16, f17, f18, f19, f20, f21, f22, f23, f24, f25, f26, f27, g1, g2, g3, g4, g5, g6, g7, g8, g9, g10, g11, g12, g13, g14, g15, g16, g17, g18, g19, g20, g21, g22, g23, g24, g25, g26, g27⟩ := hM
  show PW X 0 [(0, .ref m), (1, .int a), (2, .int b)] [] sh I L R 0 0
  refine pw_iload_n h 1 d_X8_bounds_0 rfl ?_
  refine pw_i2l h d_X8_bounds_1 ?_
  refine pw_lconst (x := 0) h d_X8_bounds_2 (by decide) ?_
  refine pw_ldc2 h d_X8_bounds_3 ck_RX8_324 ?_
  refine pw_callS (As := [.long _, .long _, .long _]) h d_X8_bounds_6 mf_X8_in st_yX8_in ml_RX8_105 ⟨by decide, by decide, by decide⟩ rfl rfl (Nat.le_of_ble_eq_true rfl) (c_X8_inW (a := 0) (b := 600) rfl rfl) ?_
  refine PKk.ret ?_
  refine pw_if_eq 25 h d_X8_bounds_9 (by decide) (fun c_9 => ?_) (fun c_9 => ?_)
  · skip
    rw [bI_1] at c_9
    refine pw_iconst (x := (-1)) h d_X8_bounds_25 (by decide) ?_
    refine pw_iret h hr d_X8_bounds_26 rfl (by decide) (by decide) ?_
    first | (refine pIf_f ?_ pRet_self; simp only [isBn, c_9, Bool.and_true, Bool.true_and, Bool.and_false, Bool.false_and]; done) | (refine pIf_f ?_ pRet_self; simp only [isBn, c_9, c_22, Bool.and_true, Bool.true_and, Bool.and_false, Bool.false_and]; done)
  · skip
    rw [bI_1, Bool.not_eq_false] at c_9
    refine pw_iload_n h 2 d_X8_bounds_12 rfl ?_
    refine pw_i2l h d_X8_bounds_13 ?_
    refine pw_iload_n h 1 d_X8_bounds_14 rfl ?_
    refine pw_i2l h d_X8_bounds_15 ?_
    refine pw_ldc2 h d_X8_bounds_16 ck_RX8_324 ?_
    refine pw_callS (As := [.long _, .long _, .long _]) h d_X8_bounds_19 mf_X8_in st_yX8_in ml_RX8_105 ⟨by decide, by decide, by decide⟩ rfl rfl (Nat.le_of_ble_eq_true rfl) (c_X8_inW (a := a) (b := 600) (Int32.toInt_toInt64 a) rfl) ?_
    refine PKk.ret ?_
    refine pw_if_ne 27 h d_X8_bounds_22 (by decide) (fun c_22 => ?_) (fun c_22 => ?_)
    · skip
      rw [bI_1, Bool.not_eq_false] at c_22
      refine pw_aload_n h 0 d_X8_bounds_27 rfl ?_
      refine pw_iload_n h 1 d_X8_bounds_28 rfl ?_
      refine pw_putI 8 h d_X8_bounds_29 fd_RX8_326 (by assumption) rfl rfl rfl rfl ?_
      refine pw_aload_n h 0 d_X8_bounds_32 rfl ?_
      refine pw_iload_n h 2 d_X8_bounds_33 rfl ?_
      refine pw_putI 8 h d_X8_bounds_34 fd_RX8_85 (by assumption) rfl rfl rfl rfl ?_
      refine pw_iconst (x := 1) h d_X8_bounds_37 (by decide) ?_
      refine pw_iret h hr d_X8_bounds_38 rfl (by decide) (by decide) ?_
      exact pIf_t (by simp only [isBn, c_9, c_22, Bool.and_true, Bool.true_and, Bool.and_false, Bool.false_and]) pRet_self
    · skip
      rw [bI_1] at c_22
      refine pw_iconst (x := (-1)) h d_X8_bounds_25 (by decide) ?_
      refine pw_iret h hr d_X8_bounds_26 rfl (by decide) (by decide) ?_
      first | (refine pIf_f ?_ pRet_self; simp only [isBn, c_9, Bool.and_true, Bool.true_and, Bool.and_false, Bool.false_and]; done) | (refine pIf_f ?_ pRet_self; simp only [isBn, c_9, c_22, Bool.and_true, Bool.true_and, Bool.and_false, Bool.false_and]; done)

set_option maxHeartbeats 4000000 in
set_option maxRecDepth 100000 in
theorem c_X8_mended {sh : Sh} {I : IM} {L : LM} {R : RM} {m n : Nat} (hM : ModF sh R m) (hn : I m 0 = nI n) (h6 : n ≤ 6) (b : Int32) : PMet M_X8_mended [.ref m, .int b] sh I L R (pIf (isBn n b) (pIf (wrongB (missI (sumI (I (m + 5)) 13) (I (m + 4)) n) (missM (momI (I (m + 5)) 13) (I (m + 1)) (I (m + 4)) n) (I (m + 1) b.toNatClampNeg)) (pRet (some (.int (I (m + 4) b.toNatClampNeg + missI (sumI (I (m + 5)) 13) (I (m + 4)) n))) sh I L R) (pRet (some (.int (-4))) sh I L R)) (pRet (some (.int (-1))) sh I L R)) := by
  refine PMet.of mf_X8_mended (Nat.le_of_ble_eq_true rfl) ?_
  intro X h hr hml
  have hml : (xc X).maxLocals = 2 := hml
  have h : PXok X RX8 cX8_mended 3 0 0 := h
  have hr : PXr X (some .int) "mended" _ 0 0 := hr
  have hM0 := hM
  obtain ⟨f0, f1, f2, f3, f4, f5, f6, f7, f8, f9, f10, f11, f12, f13, f14, f15, f16, f17, f18, f19, f20, f21, f22, f23, f24, f25, f26, f27, g1, g2, g3, g4, g5, g6, g7, g8, g9, g10, g11, g12, g13, g14, g15, g16, g17, g18, g19, g20, g21, g22, g23, g24, g25, g26, g27⟩ := hM
  show PW X 0 [(0, .ref m), (1, .int b)] [] sh I L R 0 0
  refine pw_aload_n h 0 d_X8_mended_0 rfl ?_
  refine pw_iload_n h 1 d_X8_mended_1 rfl ?_
  refine pw_callV (As := [.int _]) h d_X8_mended_2 mf_X8_isBearing mi_X8_isBearing ml_RX8_128 ⟨by decide, by decide, by decide⟩ (by assumption) rfl rfl (Nat.le_of_ble_eq_true rfl) trivial (c_X8_isBearing hM0 hn h6) ?_
  refine PKk.ret ?_
  refine pw_if_ne 10 h d_X8_mended_5 (by decide) (fun c_5 => ?_) (fun c_5 => ?_)
  · skip
    rw [bI_1, Bool.not_eq_false] at c_5
    have hx := isBn_ix (n := n) (N := 6) c_5 h6
    refine pw_aload_n h 0 d_X8_mended_10 rfl ?_
    refine pw_iload_n h 1 d_X8_mended_11 rfl ?_
    refine pw_callV (As := [.int _]) h d_X8_mended_12 mf_X8_isWrong mi_X8_isWrong ml_RX8_340 ⟨by decide, by decide, by decide⟩ (by assumption) rfl rfl (Nat.le_of_ble_eq_true rfl) trivial (c_X8_isWrong hM0 hn h6 (px_ix_eq hx) (px_ix_lt hx)) ?_
    refine PKk.ret ?_
    refine pw_if_eq 33 h d_X8_mended_15 (by decide) (fun c_15 => ?_) (fun c_15 => ?_)
    · skip
      rw [bI_1] at c_15
      refine pw_bipush (x := (-4)) h d_X8_mended_33 (by decide) ?_
      refine pw_iret h hr d_X8_mended_35 rfl (by decide) (by decide) ?_
      first | exact pIf_t c_5 (pIf_t c_15 pRet_self) | exact pIf_t c_5 (pIf_f c_15 pRet_self)
    · skip
      rw [bI_1, Bool.not_eq_false] at c_15
      refine pw_aload_n h 0 d_X8_mended_18 rfl ?_
      refine pw_getR (j := (m + 4)) 8 h d_X8_mended_19 fd_RX8_19 (by assumption) rfl (by assumption) ?_
      refine pw_iload_n h 1 d_X8_mended_22 rfl ?_
      refine pw_iald h d_X8_mended_23 (by assumption) (by assumption) ?_
      refine pw_aload_n h 0 d_X8_mended_24 rfl ?_
      refine pw_iconst (x := 0) h d_X8_mended_25 (by decide) ?_
      refine pw_callV (As := [.int _]) h d_X8_mended_26 mf_X8_lacks mi_X8_lacks ml_RX8_337 ⟨by decide, by decide, by decide⟩ (by assumption) rfl rfl (Nat.le_of_ble_eq_true rfl) trivial (c_X8_lacks0 hM0 hn h6) ?_
      refine PKk.ret ?_
      refine pw_iadd h d_X8_mended_29 ?_
      refine pw_goto 35 h d_X8_mended_30 (by decide) ?_
      refine pw_iret h hr d_X8_mended_35 rfl (by decide) (by decide) ?_
      first | exact pIf_t c_5 (pIf_t c_15 pRet_self) | exact pIf_t c_5 (pIf_f c_15 pRet_self)
  · skip
    rw [bI_1] at c_5
    refine pw_iconst (x := (-1)) h d_X8_mended_8 (by decide) ?_
    refine pw_iret h hr d_X8_mended_9 rfl (by decide) (by decide) ?_
    exact pIf_f c_5 pRet_self
