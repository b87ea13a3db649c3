set_option maxHeartbeats 4000000 in
set_option maxRecDepth 100000 in
theorem c_X8_rises {sh : Sh} {I : IM} {L : LM} {R : RM} {m : Nat} (hM : ModF sh R m) (hsz : ∀ j, j < 4 → (I (m + 25) j).toInt ≤ 13) (s t l i n : Int32) : PMet M_X8_rises [.ref m, .int s, .int t, .int l, .int i, .int n] sh I L R (pIf (isW s 0 3 && isW t 0 3 && isW l 0 2 && isW n 0 13) (pIf (decide ((faultM (I (m + 24) t.toNatClampNeg) (I (m + 25) t.toNatClampNeg) l i n) < 0)) (pRet (some (.int (faultM (I (m + 24) t.toNatClampNeg) (I (m + 25) t.toNatClampNeg) l i n))) sh I L R) (pIf (allB (fun k => isW (I (m + 26) (13 * t.toNatClampNeg + i.toNatClampNeg + k)) (-20) 20) n.toNatClampNeg) (pRet (some (.int n)) sh (u1 I (m + 6) (fun j => if 13 * s.toNatClampNeg ≤ j ∧ j < 13 * s.toNatClampNeg + n.toNatClampNeg then I (m + 26) (13 * t.toNatClampNeg + i.toNatClampNeg + (j - 13 * s.toNatClampNeg)) else I (m + 6) j)) L R) (pRet (some (.int (-2))) sh I L R))) (pRet (some (.int (-1))) sh I L R)) := by
  refine PMet.of mf_X8_rises (Nat.le_of_ble_eq_true rfl) ?_
  intro X h hr hml
  have hml : (xc X).maxLocals = 8 := hml
  have h : PXok X RX8 cX8_rises 3 0 0 := h
  have hr : PXr X (some .int) "rises" _ 0 0 := hr
  have hM0 := hM
  obtain ⟨f0, f1, f2, f3, f4, f5, f6, f7, f8, f9, f10, f11, f12, f13, f14, f15, f16, f17, f18, f19, f20, f21, f22, f23, f24, f25, f26, f27, g1, g2, g3, g4, g5, g6, g7, g8, g9, g10, g11, g12, g13, g14, g15, g16, g17, g18, g19, g20, g21, g22, g23, g24, g25, g26, g27⟩ := hM
  show PW X 0 [(0, .ref m), (1, .int s), (2, .int t), (3, .int l), (4, .int i), (5, .int n)] [] sh I L R 0 0
  refine pw_iload_n h 1 d_X8_rises_0 rfl ?_
  refine pw_callS (As := [.int _]) h d_X8_rises_1 mf_X8_isState st_yX8_isState ml_RX8_135 ⟨by decide, by decide, by decide⟩ rfl rfl (Nat.le_of_ble_eq_true rfl) c_X8_isState ?_
  refine PKk.ret ?_
  refine pw_if_eq 34 h d_X8_rises_4 (by decide) (fun c_4 => ?_) (fun c_4 => ?_)
  · skip
    rw [bI_1] at c_4
    refine pw_iconst (x := (-1)) h d_X8_rises_34 (by decide) ?_
    refine pw_iret h hr d_X8_rises_35 rfl (by decide) (by decide) ?_
    first | (refine pIf_f ?_ pRet_self; simp only [isBn, c_4, Bool.and_true, Bool.true_and, Bool.and_false, Bool.false_and]; done) | (refine pIf_f ?_ pRet_self; simp only [isBn, c_4, c_11, Bool.and_true, Bool.true_and, Bool.and_false, Bool.false_and]; done) | (refine pIf_f ?_ pRet_self; simp only [isBn, c_4, c_11, c_18, Bool.and_true, Bool.true_and, Bool.and_false, Bool.false_and]; done) | (refine pIf_f ?_ pRet_self; simp only [isBn, c_4, c_11, c_18, c_31, Bool.and_true, Bool.true_and, Bool.and_false, Bool.false_and]; done)
  · skip
    rw [bI_1, Bool.not_eq_false] at c_4
    refine pw_iload_n h 2 d_X8_rises_7 rfl ?_
    refine pw_callS (As := [.int _]) h d_X8_rises_8 mf_X8_isSheet st_yX8_isSheet ml_RX8_140 ⟨by decide, by decide, by decide⟩ rfl rfl (Nat.le_of_ble_eq_true rfl) c_X8_isSheet ?_
    refine PKk.ret ?_
    refine pw_if_eq 34 h d_X8_rises_11 (by decide) (fun c_11 => ?_) (fun c_11 => ?_)
    · skip
      rw [bI_1] at c_11
      refine pw_iconst (x := (-1)) h d_X8_rises_34 (by decide) ?_
      refine pw_iret h hr d_X8_rises_35 rfl (by decide) (by decide) ?_
      first | (refine pIf_f ?_ pRet_self; simp only [isBn, c_4, Bool.and_true, Bool.true_and, Bool.and_false, Bool.false_and]; done) | (refine pIf_f ?_ pRet_self; simp only [isBn, c_4, c_11, Bool.and_true, Bool.true_and, Bool.and_false, Bool.false_and]; done) | (refine pIf_f ?_ pRet_self; simp only [isBn, c_4, c_11, c_18, Bool.and_true, Bool.true_and, Bool.and_false, Bool.false_and]; done) | (refine pIf_f ?_ pRet_self; simp only [isBn, c_4, c_11, c_18, c_31, Bool.and_true, Bool.true_and, Bool.and_false, Bool.false_and]; done)
    · skip
      rw [bI_1, Bool.not_eq_false] at c_11
      refine pw_iload_n h 3 d_X8_rises_14 rfl ?_
      refine pw_callS (As := [.int _]) h d_X8_rises_15 mf_X8_isLane st_yX8_isLane ml_RX8_143 ⟨by decide, by decide, by decide⟩ rfl rfl (Nat.le_of_ble_eq_true rfl) c_X8_isLane ?_
      refine PKk.ret ?_
      refine pw_if_eq 34 h d_X8_rises_18 (by decide) (fun c_18 => ?_) (fun c_18 => ?_)
      · skip
        rw [bI_1] at c_18
        refine pw_iconst (x := (-1)) h d_X8_rises_34 (by decide) ?_
        refine pw_iret h hr d_X8_rises_35 rfl (by decide) (by decide) ?_
        first | (refine pIf_f ?_ pRet_self; simp only [isBn, c_4, Bool.and_true, Bool.true_and, Bool.and_false, Bool.false_and]; done) | (refine pIf_f ?_ pRet_self; simp only [isBn, c_4, c_11, Bool.and_true, Bool.true_and, Bool.and_false, Bool.false_and]; done) | (refine pIf_f ?_ pRet_self; simp only [isBn, c_4, c_11, c_18, Bool.and_true, Bool.true_and, Bool.and_false, Bool.false_and]; done) | (refine pIf_f ?_ pRet_self; simp only [isBn, c_4, c_11, c_18, c_31, Bool.and_true, Bool.true_and, Bool.and_false, Bool.false_and]; done)
      · skip
        rw [bI_1, Bool.not_eq_false] at c_18
        refine pw_iload h 5 d_X8_rises_21 rfl ?_
        refine pw_i2l h d_X8_rises_23 ?_
        refine pw_lconst (x := 0) h d_X8_rises_24 (by decide) ?_
        refine pw_ldc2 h d_X8_rises_25 ck_RX8_146 ?_
        refine pw_callS (As := [.long _, .long _, .long _]) h d_X8_rises_28 mf_X8_in st_yX8_in ml_RX8_105 ⟨by decide, by decide, by decide⟩ rfl rfl (Nat.le_of_ble_eq_true rfl) (c_X8_inW (a := 0) (b := 13) rfl rfl) ?_
        refine PKk.ret ?_
        refine pw_if_ne 36 h d_X8_rises_31 (by decide) (fun c_31 => ?_) (fun c_31 => ?_)
        · skip
          rw [bI_1, Bool.not_eq_false] at c_31
          have hx := isW_ix (N := 4) c_4 rfl (by decide)
          have hxt := isW_ix (N := 4) c_11 rfl (by decide)
          have hn13 := k_isW (c := 0) (d := 13) c_31 rfl rfl
          have kn := k_nn hn13.1
          have env := k_nv hn13.1
          refine pw_aload_n h 0 d_X8_rises_36 rfl ?_
          refine pw_iload_n h 2 d_X8_rises_37 rfl ?_
          refine pw_iload_n h 3 d_X8_rises_38 rfl ?_
          refine pw_iload h 4 d_X8_rises_39 rfl ?_
          refine pw_iload h 5 d_X8_rises_41 rfl ?_
          refine pw_callV (As := [.int _, .int _, .int _, .int _]) h d_X8_rises_43 mf_X8_finds mi_X8_finds ml_RX8_148 ⟨by decide, by decide, by decide⟩ (by assumption) rfl rfl (Nat.le_of_ble_eq_true rfl) trivial (c_X8_finds hM0 hxt l i n) ?_
          refine PKk.ret ?_
          refine pw_nmI (fun v6_46 e6_46 => ?_)
          refine pw_istore (lv' := [(6, .int v6_46), (0, .ref m), (1, .int s), (2, .int t), (3, .int l), (4, .int i), (5, .int n)]) h d_X8_rises_46 _ hml (by decide) rfl ?_
          refine pw_iload h 0 d_X8_rises_48 rfl ?_
          refine pw_if_ge 56 h d_X8_rises_50 (by decide) (fun c_50 => ?_) (fun c_50 => ?_)
          · skip
            rw [e6_46] at c_50
            have hf := faultM_ok (nlt_of_ge c_50)
            have hcz := hsz _ (px_ix_lt hxt)
            refine pw_iconst (x := 0) h d_X8_rises_56 (by decide) ?_
            refine pw_nmI (fun v7_57 e7_57 => ?_)
            refine pw_istore (lv' := [(7, .int v7_57), (6, .int v6_46), (0, .ref m), (1, .int s), (2, .int t), (3, .int l), (4, .int i), (5, .int n)]) h d_X8_rises_57 _ hml (by decide) rfl ?_
            have cut_59 : ∀ (N k : Nat) (v : Int32), n.toNatClampNeg < k + N → k ≤ n.toNatClampNeg → v = nI k → allB (fun k => isW (I (m + 26) (13 * t.toNatClampNeg + i.toNatClampNeg + k)) (-20) 20) k = true → PW X 59 [(0, .ref m), (1, .int s), (2, .int t), (4, .int i), (5, .int n), (7, .int v)] [] sh I L R 0 0 := by
              intro N
              induction N with
              | zero => intros; omega
              | succ N ih =>
                intro k v hN hi ev hal
                refine pw_iload h 5 d_X8_rises_59 rfl ?_
                refine pw_iload h 4 d_X8_rises_61 rfl ?_
                refine pw_icmp_ge 103 h d_X8_rises_63 (by decide) (fun c_63 => ?_) (fun c_63 => ?_)
                · skip
                  have hge := k_ge ev env (by omega) (by omega) c_63
                  have ek : k = n.toNatClampNeg := by omega
                  subst ek
                  refine pw_iconst (x := 0) h d_X8_rises_103 (by decide) ?_
                  refine pw_nmI (fun v7_104 e7_104 => ?_)
                  refine pw_istore (lv' := [(7, .int v7_104), (0, .ref m), (1, .int s), (2, .int t), (4, .int i), (5, .int n)]) h d_X8_rises_104 _ hml (by decide) rfl ?_
                  have cut_106 : ∀ (N k : Nat) (v : Int32), n.toNatClampNeg < k + N → k ≤ n.toNatClampNeg → v = nI k → PW X 106 [(0, .ref m), (1, .int s), (2, .int t), (4, .int i), (5, .int n), (7, .int v)] [] sh (u1 I (m + 6) (fun j => if 13 * s.toNatClampNeg ≤ j ∧ j < 13 * s.toNatClampNeg + k then I (m + 26) (13 * t.toNatClampNeg + i.toNatClampNeg + (j - 13 * s.toNatClampNeg)) else I (m + 6) j)) L R 0 0 := by
                    intro N
                    induction N with
                    | zero => intros; omega
                    | succ N ih =>
                      intro k v hN hi ev
                      refine pw_iload h 5 d_X8_rises_106 rfl ?_
                      refine pw_iload h 4 d_X8_rises_108 rfl ?_
                      refine pw_icmp_ge 146 h d_X8_rises_110 (by decide) (fun c_110 => ?_) (fun c_110 => ?_)
                      · skip
                        have hge := k_ge ev env (by omega) (by omega) c_110
                        have ek : k = n.toNatClampNeg := by omega
                        subst ek
                        refine pw_iload h 4 d_X8_rises_146 rfl ?_
                        refine pw_iret h hr d_X8_rises_148 rfl (by decide) (by decide) ?_
                        exact pIf_t (by simp only [isBn, c_4, c_11, c_18, c_31, Bool.and_true, Bool.true_and, Bool.and_false, Bool.false_and]) (pIf_f (decide_eq_false (nlt_of_ge c_50)) (pIf_t hal pRet_self))
                      · skip
                        have hlt := k_lt ev env (by omega) (by omega) c_110
                        have hxi : px_ix (13 * t + i + v) 52 (13 * t.toNatClampNeg + i.toNatClampNeg + k) := by rw [ev]; exact hasM_ix hf.2.2 hcz hxt (by omega)
                        have hxk : px_ix (13 * s + v) 52 (13 * s.toNatClampNeg + k) := px_ix_13 hx (k_ix ev (by omega) (by decide))
                        refine pw_aload_n h 0 d_X8_rises_113 rfl ?_
                        refine pw_getR (j := (m + 6)) 8 h d_X8_rises_114 fd_RX8_25 (by assumption) rfl (by assumption) ?_
                        refine pw_bipush (x := 13) h d_X8_rises_117 (by decide) ?_
                        refine pw_iload_n h 1 d_X8_rises_119 rfl ?_
                        refine pw_imul h d_X8_rises_120 ?_
                        refine pw_iload h 5 d_X8_rises_121 rfl ?_
                        refine pw_iadd h d_X8_rises_123 ?_
                        refine pw_aload_n h 0 d_X8_rises_124 rfl ?_
                        refine pw_getR (j := (m + 26)) 8 h d_X8_rises_125 fd_RX8_97 (by assumption) rfl (by assumption) ?_
                        refine pw_bipush (x := 13) h d_X8_rises_128 (by decide) ?_
                        refine pw_iload_n h 2 d_X8_rises_130 rfl ?_
                        refine pw_imul h d_X8_rises_131 ?_
                        refine pw_iload h 3 d_X8_rises_132 rfl ?_
                        refine pw_iadd h d_X8_rises_134 ?_
                        refine pw_iload h 5 d_X8_rises_135 rfl ?_
                        refine pw_iadd h d_X8_rises_137 ?_
                        refine pw_iald h d_X8_rises_138 (by assumption) (by assumption) ?_
                        refine pw_iast h d_X8_rises_139 (by assumption) (by assumption) ?_
                        obtain ⟨v7_140, e7_140⟩ : ∃ z : Int32, z = v + (1) := ⟨_, rfl⟩
                        refine pw_iinc (lv' := [(7, .int v7_140), (0, .ref m), (1, .int s), (2, .int t), (4, .int i), (5, .int n)]) v7_140 h d_X8_rises_140 5 rfl e7_140.symm _ hml (by decide) rfl ?_
                        refine pw_goto 106 h d_X8_rises_143 (by decide) ?_
                        refine PW.perm [1, 2, 3, 4, 5, 0] rfl ?_
                        refine pw_mem ?_ rfl rfl (ih (k + 1) v7_140 (by omega) (by omega) (k_up e7_140 ev))
                        rw [u1_n (by omega)]
                        exact u1_stepR (F := fun j => I (m + 26) (13 * t.toNatClampNeg + i.toNatClampNeg + j))
                  refine PW.perm [1, 2, 3, 4, 5, 0] rfl ?_
                  refine pw_mem ?_ rfl rfl (cut_106 (n.toNatClampNeg + 1) 0 v7_104 (by omega) (by omega) e7_104)
                  exact u1_noneR (F := fun j => I (m + 26) (13 * t.toNatClampNeg + i.toNatClampNeg + j)) (fun _ => rfl)
                · skip
                  have hlt := k_lt ev env (by omega) (by omega) c_63
                  have hxi : px_ix (13 * t + i + v) 52 (13 * t.toNatClampNeg + i.toNatClampNeg + k) := by rw [ev]; exact hasM_ix hf.2.2 hcz hxt (by omega)
                  refine pw_aload_n h 0 d_X8_rises_66 rfl ?_
                  refine pw_getR (j := (m + 26)) 8 h d_X8_rises_67 fd_RX8_97 (by assumption) rfl (by assumption) ?_
                  refine pw_bipush (x := 13) h d_X8_rises_70 (by decide) ?_
                  refine pw_iload_n h 2 d_X8_rises_72 rfl ?_
                  refine pw_imul h d_X8_rises_73 ?_
                  refine pw_iload h 3 d_X8_rises_74 rfl ?_
                  refine pw_iadd h d_X8_rises_76 ?_
                  refine pw_iload h 5 d_X8_rises_77 rfl ?_
                  refine pw_iadd h d_X8_rises_79 ?_
                  refine pw_iald h d_X8_rises_80 (by assumption) (by assumption) ?_
                  refine pw_i2l h d_X8_rises_81 ?_
                  refine pw_ldc2 h d_X8_rises_82 ck_RX8_138 ?_
                  refine pw_ldc2 h d_X8_rises_85 ck_RX8_131 ?_
                  refine pw_callS (As := [.long _, .long _, .long _]) h d_X8_rises_88 mf_X8_in st_yX8_in ml_RX8_105 ⟨by decide, by decide, by decide⟩ rfl rfl (Nat.le_of_ble_eq_true rfl) (c_X8_inW (a := -20) (b := 20) rfl rfl) ?_
                  refine PKk.ret ?_
                  refine pw_if_ne 97 h d_X8_rises_91 (by decide) (fun c_91 => ?_) (fun c_91 => ?_)
                  · skip
                    rw [bI_1, Bool.not_eq_false] at c_91
                    obtain ⟨v7_97, e7_97⟩ : ∃ z : Int32, z = v + (1) := ⟨_, rfl⟩
                    refine pw_iinc (lv' := [(7, .int v7_97), (0, .ref m), (1, .int s), (2, .int t), (4, .int i), (5, .int n)]) v7_97 h d_X8_rises_97 5 rfl e7_97.symm _ hml (by decide) rfl ?_
                    refine pw_goto 59 h d_X8_rises_100 (by decide) ?_
                    refine PW.perm [1, 2, 3, 4, 5, 0] rfl ?_
                    exact ih (k + 1) v7_97 (by omega) (by omega) (k_up e7_97 ev) (by simp only [allB, hal, c_91, Bool.and_true])
                  · skip
                    rw [bI_1] at c_91
                    refine pw_bipush (x := (-2)) h d_X8_rises_94 (by decide) ?_
                    refine pw_iret h hr d_X8_rises_96 rfl (by decide) (by decide) ?_
                    exact pIf_t (by simp only [isBn, c_4, c_11, c_18, c_31, Bool.and_true, Bool.true_and, Bool.and_false, Bool.false_and]) (pIf_f (decide_eq_false (nlt_of_ge c_50)) (pIf_f (allB_f (g := fun k => isW (I (m + 26) (13 * t.toNatClampNeg + i.toNatClampNeg + k)) (-20) 20) c_91 _ hlt) pRet_self))
            refine PW.perm [2, 3, 4, 6, 7, 0] rfl ?_
            exact cut_59 (n.toNatClampNeg + 1) 0 v7_57 (by omega) (by omega) e7_57 rfl
          · skip
            rw [e6_46] at c_50
            refine pw_iload h 0 d_X8_rises_53 rfl ?_
            refine pw_iret h hr d_X8_rises_55 rfl (by decide) (by decide) ?_
            rw [e6_46]
            exact pIf_t (by simp only [isBn, c_4, c_11, c_18, c_31, Bool.and_true, Bool.true_and, Bool.and_false, Bool.false_and]) (pIf_t (decide_eq_true (lt_of_nge c_50)) pRet_self)
        · skip
          rw [bI_1] at c_31
          refine pw_iconst (x := (-1)) h d_X8_rises_34 (by decide) ?_
          refine pw_iret h hr d_X8_rises_35 rfl (by decide) (by decide) ?_
          first | (refine pIf_f ?_ pRet_self; simp only [isBn, c_4, Bool.and_true, Bool.true_and, Bool.and_false, Bool.false_and]; done) | (refine pIf_f ?_ pRet_self; simp only [isBn, c_4, c_11, Bool.and_true, Bool.true_and, Bool.and_false, Bool.false_and]; done) | (refine pIf_f ?_ pRet_self; simp only [isBn, c_4, c_11, c_18, Bool.and_true, Bool.true_and, Bool.and_false, Bool.false_and]; done) | (refine pIf_f ?_ pRet_self; simp only [isBn, c_4, c_11, c_18, c_31, Bool.and_true, Bool.true_and, Bool.and_false, Bool.false_and]; done)

set_option maxHeartbeats 4000000 in
set_option maxRecDepth 100000 in
theorem c_X8_copy {sh : Sh} {I : IM} {L : LM} {R : RM} {m : Nat} (hM : ModF sh R m) (hsz : ∀ j, j < 4 → (I (m + 25) j).toInt ≤ 13) (s i t j n : Int32) : PMet M_X8_copy [.ref m, .int s, .int i, .int t, .int j, .int n] sh I L R (pIf (isW s 0 3 && isW t 0 3) (pIf (decide (¬ I (m + 24) s.toNatClampNeg < 0 ∧ ¬ I (m + 24) t.toNatClampNeg < 0)) (pIf (decide (I (m + 24) s.toNatClampNeg = I (m + 24) t.toNatClampNeg)) (pIf (decide (¬ n < 0) && hasM (I (m + 25) s.toNatClampNeg) i n && hasM (I (m + 25) t.toNatClampNeg) j n) (pRet (some (.int n)) sh (u1 (u1 I (m + 27) (fun q => if q < n.toNatClampNeg then I (m + 26) (13 * s.toNatClampNeg + i.toNatClampNeg + q) else I (m + 27) q)) (m + 26) (fun q => if (13 * t.toNatClampNeg + j.toNatClampNeg) ≤ q ∧ q < (13 * t.toNatClampNeg + j.toNatClampNeg) + n.toNatClampNeg then I (m + 26) (13 * s.toNatClampNeg + i.toNatClampNeg + (q - (13 * t.toNatClampNeg + j.toNatClampNeg))) else I (m + 26) q)) L R) (pRet (some (.int (-13))) sh I L R)) (pRet (some (.int (-12))) sh I L R)) (pRet (some (.int (-11))) sh I L R)) (pRet (some (.int (-1))) sh I L R)) := by
  refine PMet.of mf_X8_copy (Nat.le_of_ble_eq_true rfl) ?_
  intro X h hr hml
  have hml : (xc X).maxLocals = 7 := hml
  have h : PXok X RX8 cX8_copy 3 0 0 := h
  have hr : PXr X (some .int) "copy" _ 0 0 := hr
  have hM0 := hM
  obtain ⟨f0, f1, f2, f3, f4, f5, f6, f7, f8, f9, f10, f11, f12, f13, f14, f15, f16, f17, f18, f19, f20, f21, f22, f23, f24, f25, f26, f27, g1, g2, g3, g4, g5, g6, g7, g8, g9, g10, g11, g12, g13, g14, g15, g16, g17, g18, g19, g20, g21, g22, g23, g24, g25, g26, g27⟩ := hM
  show PW X 0 [(0, .ref m), (1, .int s), (2, .int i), (3, .int t), (4, .int j), (5, .int n)] [] sh I L R 0 0
  refine pw_iload_n h 1 d_X8_copy_0 rfl ?_
  refine pw_callS (As := [.int _]) h d_X8_copy_1 mf_X8_isSheet st_yX8_isSheet ml_RX8_140 ⟨by decide, by decide, by decide⟩ rfl rfl (Nat.le_of_ble_eq_true rfl) c_X8_isSheet ?_
  refine PKk.ret ?_
  refine pw_if_eq 14 h d_X8_copy_4 (by decide) (fun c_4 => ?_) (fun c_4 => ?_)
  · skip
    rw [bI_1] at c_4
    refine pw_iconst (x := (-1)) h d_X8_copy_14 (by decide) ?_
    refine pw_iret h hr d_X8_copy_15 rfl (by decide) (by decide) ?_
    first | (refine pIf_f ?_ pRet_self; simp only [isBn, c_4, Bool.and_true, Bool.true_and, Bool.and_false, Bool.false_and]; done) | (refine pIf_f ?_ pRet_self; simp only [isBn, c_4, c_11, Bool.and_true, Bool.true_and, Bool.and_false, Bool.false_and]; done)
  · skip
    rw [bI_1, Bool.not_eq_false] at c_4
    refine pw_iload_n h 3 d_X8_copy_7 rfl ?_
    refine pw_callS (As := [.int _]) h d_X8_copy_8 mf_X8_isSheet st_yX8_isSheet ml_RX8_140 ⟨by decide, by decide, by decide⟩ rfl rfl (Nat.le_of_ble_eq_true rfl) c_X8_isSheet ?_
    refine PKk.ret ?_
    refine pw_if_ne 16 h d_X8_copy_11 (by decide) (fun c_11 => ?_) (fun c_11 => ?_)
    · skip
      rw [bI_1, Bool.not_eq_false] at c_11
      have hx := isW_ix (N := 4) c_4 rfl (by decide)
      have hxt := isW_ix (N := 4) c_11 rfl (by decide)
      refine pw_aload_n h 0 d_X8_copy_16 rfl ?_
      refine pw_getR (j := (m + 24)) 8 h d_X8_copy_17 fd_RX8_91 (by assumption) rfl (by assumption) ?_
      refine pw_iload_n h 1 d_X8_copy_20 rfl ?_
      refine pw_iald h d_X8_copy_21 (by assumption) (by assumption) ?_
      refine pw_if_lt 34 h d_X8_copy_22 (by decide) (fun c_22 => ?_) (fun c_22 => ?_)
      · skip
        refine pw_bipush (x := (-11)) h d_X8_copy_34 (by decide) ?_
        refine pw_iret h hr d_X8_copy_36 rfl (by decide) (by decide) ?_
        first | exact pIf_t (by simp only [isBn, c_4, c_11, Bool.and_true, Bool.true_and, Bool.and_false, Bool.false_and]) (pIf_f (decide_eq_false (fun q => q.1 (lt_of_nge c_22))) pRet_self) | exact pIf_t (by simp only [isBn, c_4, c_11, Bool.and_true, Bool.true_and, Bool.and_false, Bool.false_and]) (pIf_f (decide_eq_false (fun q => q.2 (lt_of_nge c_31))) pRet_self) | exact pIf_t (by simp only [isBn, c_4, c_11, Bool.and_true, Bool.true_and, Bool.and_false, Bool.false_and]) (pIf_f (decide_eq_false (fun q => q.1 c_22)) pRet_self)
      · skip
        refine pw_aload_n h 0 d_X8_copy_25 rfl ?_
        refine pw_getR (j := (m + 24)) 8 h d_X8_copy_26 fd_RX8_91 (by assumption) rfl (by assumption) ?_
        refine pw_iload_n h 3 d_X8_copy_29 rfl ?_
        refine pw_iald h d_X8_copy_30 (by assumption) (by assumption) ?_
        refine pw_if_ge 37 h d_X8_copy_31 (by decide) (fun c_31 => ?_) (fun c_31 => ?_)
        · skip
          refine pw_aload_n h 0 d_X8_copy_37 rfl ?_
          refine pw_getR (j := (m + 24)) 8 h d_X8_copy_38 fd_RX8_91 (by assumption) rfl (by assumption) ?_
          refine pw_iload_n h 1 d_X8_copy_41 rfl ?_
          refine pw_iald h d_X8_copy_42 (by assumption) (by assumption) ?_
          refine pw_aload_n h 0 d_X8_copy_43 rfl ?_
          refine pw_getR (j := (m + 24)) 8 h d_X8_copy_44 fd_RX8_91 (by assumption) rfl (by assumption) ?_
          refine pw_iload_n h 3 d_X8_copy_47 rfl ?_
          refine pw_iald h d_X8_copy_48 (by assumption) (by assumption) ?_
          refine pw_icmp_eq 55 h d_X8_copy_49 (by decide) (fun c_49 => ?_) (fun c_49 => ?_)
          · skip
            refine pw_iload h 5 d_X8_copy_55 rfl ?_
            refine pw_if_lt 95 h d_X8_copy_57 (by decide) (fun c_57 => ?_) (fun c_57 => ?_)
            · skip
              refine pw_bipush (x := (-13)) h d_X8_copy_95 (by decide) ?_
              refine pw_iret h hr d_X8_copy_97 rfl (by decide) (by decide) ?_
              refine pIf_t (by simp only [isBn, c_4, c_11, Bool.and_true, Bool.true_and, Bool.and_false, Bool.false_and]) (pIf_t (decide_eq_true ⟨c_22, nlt_of_ge c_31⟩) (pIf_t (decide_eq_true c_49) (pIf_f ?_ pRet_self)))
              first | exact an3_1 (decide_eq_false (fun q => q c_57)) | exact an3_2 (faultM_no c_22 rfl c_74) | exact an3_3 (faultM_no (nlt_of_ge c_31) rfl (lt_of_nge c_92))
            · skip
              refine pw_aload_n h 0 d_X8_copy_60 rfl ?_
              refine pw_iload_n h 1 d_X8_copy_61 rfl ?_
              refine pw_aload_n h 0 d_X8_copy_62 rfl ?_
              refine pw_getR (j := (m + 24)) 8 h d_X8_copy_63 fd_RX8_91 (by assumption) rfl (by assumption) ?_
              refine pw_iload_n h 1 d_X8_copy_66 rfl ?_
              refine pw_iald h d_X8_copy_67 (by assumption) (by assumption) ?_
              refine pw_iload_n h 2 d_X8_copy_68 rfl ?_
              refine pw_iload h 5 d_X8_copy_69 rfl ?_
              refine pw_callV (As := [.int _, .int _, .int _, .int _]) h d_X8_copy_71 mf_X8_finds mi_X8_finds ml_RX8_148 ⟨by decide, by decide, by decide⟩ (by assumption) rfl rfl (Nat.le_of_ble_eq_true rfl) trivial (c_X8_finds hM0 hx _ i n) ?_
              refine PKk.ret ?_
              refine pw_if_lt 95 h d_X8_copy_74 (by decide) (fun c_74 => ?_) (fun c_74 => ?_)
              · skip
                refine pw_bipush (x := (-13)) h d_X8_copy_95 (by decide) ?_
                refine pw_iret h hr d_X8_copy_97 rfl (by decide) (by decide) ?_
                refine pIf_t (by simp only [isBn, c_4, c_11, Bool.and_true, Bool.true_and, Bool.and_false, Bool.false_and]) (pIf_t (decide_eq_true ⟨c_22, nlt_of_ge c_31⟩) (pIf_t (decide_eq_true c_49) (pIf_f ?_ pRet_self)))
                first | exact an3_1 (decide_eq_false (fun q => q c_57)) | exact an3_2 (faultM_no c_22 rfl c_74) | exact an3_3 (faultM_no (nlt_of_ge c_31) rfl (lt_of_nge c_92))
              · skip
                refine pw_aload_n h 0 d_X8_copy_77 rfl ?_
                refine pw_iload_n h 3 d_X8_copy_78 rfl ?_
                refine pw_aload_n h 0 d_X8_copy_79 rfl ?_
                refine pw_getR (j := (m + 24)) 8 h d_X8_copy_80 fd_RX8_91 (by assumption) rfl (by assumption) ?_
                refine pw_iload_n h 3 d_X8_copy_83 rfl ?_
                refine pw_iald h d_X8_copy_84 (by assumption) (by assumption) ?_
                refine pw_iload h 4 d_X8_copy_85 rfl ?_
                refine pw_iload h 5 d_X8_copy_87 rfl ?_
                refine pw_callV (As := [.int _, .int _, .int _, .int _]) h d_X8_copy_89 mf_X8_finds mi_X8_finds ml_RX8_148 ⟨by decide, by decide, by decide⟩ (by assumption) rfl rfl (Nat.le_of_ble_eq_true rfl) trivial (c_X8_finds hM0 hxt _ j n) ?_
                refine PKk.ret ?_
                refine pw_if_ge 98 h d_X8_copy_92 (by decide) (fun c_92 => ?_) (fun c_92 => ?_)
                · skip
                  have g1 := faultM_ok c_74
                  have g2 := faultM_ok (nlt_of_ge c_92)
                  have hn0 : 0 ≤ n.toInt := by rw [Int32.lt_iff_toInt_lt] at c_57; exact Int.not_lt.mp c_57
                  have kn := k_nn hn0
                  have env := k_nv hn0
                  have hcz := hsz _ (px_ix_lt hx)
                  have hczt := hsz _ (px_ix_lt hxt)
                  have hn13 : n.toInt ≤ 13 := by have := of_decide_eq_true g1.2.2; omega
                  refine pw_iconst (x := 0) h d_X8_copy_98 (by decide) ?_
                  refine pw_nmI (fun v6_99 e6_99 => ?_)
                  refine pw_istore (lv' := [(6, .int v6_99), (0, .ref m), (1, .int s), (2, .int i), (3, .int t), (4, .int j), (5, .int n)]) h d_X8_copy_99 _ hml (by decide) rfl ?_
                  have cut_101 : ∀ (N k : Nat) (v : Int32), n.toNatClampNeg < k + N → k ≤ n.toNatClampNeg → v = nI k → PW X 101 [(0, .ref m), (1, .int s), (2, .int i), (3, .int t), (4, .int j), (5, .int n), (6, .int v)] [] sh (u1 I (m + 27) (fun q => if q < k then I (m + 26) (13 * s.toNatClampNeg + i.toNatClampNeg + q) else I (m + 27) q)) L R 0 0 := by
                    intro N
                    induction N with
                    | zero => intros; omega
                    | succ N ih =>
                      intro k v hN hi ev
                      refine pw_iload h 6 d_X8_copy_101 rfl ?_
                      refine pw_iload h 5 d_X8_copy_103 rfl ?_
                      refine pw_icmp_ge 135 h d_X8_copy_105 (by decide) (fun c_105 => ?_) (fun c_105 => ?_)
                      · skip
                        have hge := k_ge ev env (by omega) (by omega) c_105
                        have ek : k = n.toNatClampNeg := by omega
                        subst ek
                        refine pw_iconst (x := 0) h d_X8_copy_135 (by decide) ?_
                        refine pw_nmI (fun v6_136 e6_136 => ?_)
                        refine pw_istore (lv' := [(6, .int v6_136), (0, .ref m), (1, .int s), (2, .int i), (3, .int t), (4, .int j), (5, .int n)]) h d_X8_copy_136 _ hml (by decide) rfl ?_
                        have cut_138 : ∀ (N k : Nat) (v : Int32), n.toNatClampNeg < k + N → k ≤ n.toNatClampNeg → v = nI k → PW X 138 [(0, .ref m), (1, .int s), (2, .int i), (3, .int t), (4, .int j), (5, .int n), (6, .int v)] [] sh (u1 (u1 I (m + 27) (fun q => if q < n.toNatClampNeg then I (m + 26) (13 * s.toNatClampNeg + i.toNatClampNeg + q) else I (m + 27) q)) (m + 26) (fun q => if (13 * t.toNatClampNeg + j.toNatClampNeg) ≤ q ∧ q < (13 * t.toNatClampNeg + j.toNatClampNeg) + k then I (m + 26) (13 * s.toNatClampNeg + i.toNatClampNeg + (q - (13 * t.toNatClampNeg + j.toNatClampNeg))) else I (m + 26) q)) L R 0 0 := by
                          intro N
                          induction N with
                          | zero => intros; omega
                          | succ N ih =>
                            intro k v hN hi ev
                            refine pw_iload h 6 d_X8_copy_138 rfl ?_
                            refine pw_iload h 5 d_X8_copy_140 rfl ?_
                            refine pw_icmp_ge 173 h d_X8_copy_142 (by decide) (fun c_142 => ?_) (fun c_142 => ?_)
                            · skip
                              have hge := k_ge ev env (by omega) (by omega) c_142
                              have ek : k = n.toNatClampNeg := by omega
                              subst ek
                              refine pw_iload h 5 d_X8_copy_173 rfl ?_
                              refine pw_iret h hr d_X8_copy_175 rfl (by decide) (by decide) ?_
                              exact pIf_t (by simp only [isBn, c_4, c_11, Bool.and_true, Bool.true_and, Bool.and_false, Bool.false_and]) (pIf_t (decide_eq_true ⟨c_22, nlt_of_ge c_31⟩) (pIf_t (decide_eq_true c_49) (pIf_t (by simp only [g1.2.2, g2.2.2, decide_eq_true c_57, Bool.and_self]) pRet_self)))
                            · skip
                              have hlt := k_lt ev env (by omega) (by omega) c_142
                              have hxi : px_ix (13 * t + j + v) 52 (13 * t.toNatClampNeg + j.toNatClampNeg + k) := by rw [ev]; exact hasM_ix g2.2.2 hczt hxt (by omega)
                              have hxk : px_ix v 13 k := k_ix ev (by omega) (by decide)
                              refine pw_aload_n h 0 d_X8_copy_145 rfl ?_
                              refine pw_getR (j := (m + 26)) 8 h d_X8_copy_146 fd_RX8_97 (by assumption) rfl (by assumption) ?_
                              refine pw_bipush (x := 13) h d_X8_copy_149 (by decide) ?_
                              refine pw_iload_n h 3 d_X8_copy_151 rfl ?_
                              refine pw_imul h d_X8_copy_152 ?_
                              refine pw_iload h 4 d_X8_copy_153 rfl ?_
                              refine pw_iadd h d_X8_copy_155 ?_
                              refine pw_iload h 6 d_X8_copy_156 rfl ?_
                              refine pw_iadd h d_X8_copy_158 ?_
                              refine pw_aload_n h 0 d_X8_copy_159 rfl ?_
                              refine pw_getR (j := (m + 27)) 8 h d_X8_copy_160 fd_RX8_100 (by assumption) rfl (by assumption) ?_
                              refine pw_iload h 6 d_X8_copy_163 rfl ?_
                              refine pw_iald h d_X8_copy_165 (by assumption) (by assumption) ?_
                              refine pw_iast h d_X8_copy_166 (by assumption) (by assumption) ?_
                              obtain ⟨v6_167, e6_167⟩ : ∃ z : Int32, z = v + (1) := ⟨_, rfl⟩
                              refine pw_iinc (lv' := [(6, .int v6_167), (0, .ref m), (1, .int s), (2, .int i), (3, .int t), (4, .int j), (5, .int n)]) v6_167 h d_X8_copy_167 6 rfl e6_167.symm _ hml (by decide) rfl ?_
                              refine pw_goto 138 h d_X8_copy_170 (by decide) ?_
                              refine PW.perm [1, 2, 3, 4, 5, 6, 0] rfl ?_
                              refine pw_mem ?_ rfl rfl (ih (k + 1) v6_167 (by omega) (by omega) (k_up e6_167 ev))
                              rw [u1_n (by omega), u1_s, if_pos hlt]
                              exact u1_stepR (F := fun q => I (m + 26) (13 * s.toNatClampNeg + i.toNatClampNeg + q))
                        refine PW.perm [1, 2, 3, 4, 5, 6, 0] rfl ?_
                        refine pw_mem ?_ rfl rfl (cut_138 (n.toNatClampNeg + 1) 0 v6_136 (by omega) (by omega) e6_136)
                        exact u1_noneR (F := fun q => I (m + 26) (13 * s.toNatClampNeg + i.toNatClampNeg + q)) (fun _ => u1_n (by omega))
                      · skip
                        have hlt := k_lt ev env (by omega) (by omega) c_105
                        have hxi : px_ix (13 * s + i + v) 52 (13 * s.toNatClampNeg + i.toNatClampNeg + k) := by rw [ev]; exact hasM_ix g1.2.2 hcz hx (by omega)
                        have hxk : px_ix v 13 k := k_ix ev (by omega) (by decide)
                        refine pw_aload_n h 0 d_X8_copy_108 rfl ?_
                        refine pw_getR (j := (m + 27)) 8 h d_X8_copy_109 fd_RX8_100 (by assumption) rfl (by assumption) ?_
                        refine pw_iload h 6 d_X8_copy_112 rfl ?_
                        refine pw_aload_n h 0 d_X8_copy_114 rfl ?_
                        refine pw_getR (j := (m + 26)) 8 h d_X8_copy_115 fd_RX8_97 (by assumption) rfl (by assumption) ?_
                        refine pw_bipush (x := 13) h d_X8_copy_118 (by decide) ?_
                        refine pw_iload_n h 1 d_X8_copy_120 rfl ?_
                        refine pw_imul h d_X8_copy_121 ?_
                        refine pw_iload_n h 2 d_X8_copy_122 rfl ?_
                        refine pw_iadd h d_X8_copy_123 ?_
                        refine pw_iload h 6 d_X8_copy_124 rfl ?_
                        refine pw_iadd h d_X8_copy_126 ?_
                        refine pw_iald h d_X8_copy_127 (by assumption) (by assumption) ?_
                        refine pw_iast h d_X8_copy_128 (by assumption) (by assumption) ?_
                        obtain ⟨v6_129, e6_129⟩ : ∃ z : Int32, z = v + (1) := ⟨_, rfl⟩
                        refine pw_iinc (lv' := [(6, .int v6_129), (0, .ref m), (1, .int s), (2, .int i), (3, .int t), (4, .int j), (5, .int n)]) v6_129 h d_X8_copy_129 6 rfl e6_129.symm _ hml (by decide) rfl ?_
                        refine pw_goto 101 h d_X8_copy_132 (by decide) ?_
                        refine PW.perm [1, 2, 3, 4, 5, 6, 0] rfl ?_
                        refine pw_mem ?_ rfl rfl (ih (k + 1) v6_129 (by omega) (by omega) (k_up e6_129 ev))
                        rw [u1_n (by omega)]
                        exact u1_stepF (F := fun q => I (m + 26) (13 * s.toNatClampNeg + i.toNatClampNeg + q))
                  refine PW.perm [1, 2, 3, 4, 5, 6, 0] rfl ?_
                  refine pw_mem ?_ rfl rfl (cut_101 (n.toNatClampNeg + 1) 0 v6_99 (by omega) (by omega) e6_99)
                  exact u1_noneF (F := fun q => I (m + 26) (13 * s.toNatClampNeg + i.toNatClampNeg + q)) (fun _ => rfl)
                · skip
                  refine pw_bipush (x := (-13)) h d_X8_copy_95 (by decide) ?_
                  refine pw_iret h hr d_X8_copy_97 rfl (by decide) (by decide) ?_
                  refine pIf_t (by simp only [isBn, c_4, c_11, Bool.and_true, Bool.true_and, Bool.and_false, Bool.false_and]) (pIf_t (decide_eq_true ⟨c_22, nlt_of_ge c_31⟩) (pIf_t (decide_eq_true c_49) (pIf_f ?_ pRet_self)))
                  first | exact an3_1 (decide_eq_false (fun q => q c_57)) | exact an3_2 (faultM_no c_22 rfl c_74) | exact an3_3 (faultM_no (nlt_of_ge c_31) rfl (lt_of_nge c_92))
          · skip
            refine pw_bipush (x := (-12)) h d_X8_copy_52 (by decide) ?_
            refine pw_iret h hr d_X8_copy_54 rfl (by decide) (by decide) ?_
            exact pIf_t (by simp only [isBn, c_4, c_11, Bool.and_true, Bool.true_and, Bool.and_false, Bool.false_and]) (pIf_t (decide_eq_true ⟨c_22, nlt_of_ge c_31⟩) (pIf_f (decide_eq_false c_49) pRet_self))
        · skip
          refine pw_bipush (x := (-11)) h d_X8_copy_34 (by decide) ?_
          refine pw_iret h hr d_X8_copy_36 rfl (by decide) (by decide) ?_
          first | exact pIf_t (by simp only [isBn, c_4, c_11, Bool.and_true, Bool.true_and, Bool.and_false, Bool.false_and]) (pIf_f (decide_eq_false (fun q => q.1 (lt_of_nge c_22))) pRet_self) | exact pIf_t (by simp only [isBn, c_4, c_11, Bool.and_true, Bool.true_and, Bool.and_false, Bool.false_and]) (pIf_f (decide_eq_false (fun q => q.2 (lt_of_nge c_31))) pRet_self) | exact pIf_t (by simp only [isBn, c_4, c_11, Bool.and_true, Bool.true_and, Bool.and_false, Bool.false_and]) (pIf_f (decide_eq_false (fun q => q.1 c_22)) pRet_self)
    · skip
      rw [bI_1] at c_11
      refine pw_iconst (x := (-1)) h d_X8_copy_14 (by decide) ?_
      refine pw_iret h hr d_X8_copy_15 rfl (by decide) (by decide) ?_
      first | (refine pIf_f ?_ pRet_self; simp only [isBn, c_4, Bool.and_true, Bool.true_and, Bool.and_false, Bool.false_and]; done) | (refine pIf_f ?_ pRet_self; simp only [isBn, c_4, c_11, Bool.and_true, Bool.true_and, Bool.and_false, Bool.false_and]; done)
