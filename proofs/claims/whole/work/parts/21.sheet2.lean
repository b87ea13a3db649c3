set_option maxHeartbeats 4000000 in
set_option maxRecDepth 100000 in
theorem c_X7_rises {sh : Sh} {I : IM} {L : LM} {R : RM} (hC : ClassF sh R) (hsz : ∀ j, j < 4 → 0 ≤ (I (73 + 2 * j) 2).toInt ∧ (I (73 + 2 * j) 2).toInt ≤ 13) (hln : ∀ j, j < 4 → I (73 + 2 * j) 1 = 0 ∨ I (73 + 2 * j) 1 = 1 ∨ I (73 + 2 * j) 1 = 2) (s t l i n : Int32) : PMet M_X7_rises [.ref 0, .int s, .int t, .int l, .int i, .int n] sh I L R (pIf (isW s 0 3 && isW t 0 3 && isW l 0 2 && isW n 0 13) (pIf (decide (faultS (I (73 + 2 * t.toNatClampNeg) 0) (I (73 + 2 * t.toNatClampNeg) 1) (I (73 + 2 * t.toNatClampNeg) 2) l i n < 0)) (pRet (some (.int (faultS (I (73 + 2 * t.toNatClampNeg) 0) (I (73 + 2 * t.toNatClampNeg) 1) (I (73 + 2 * t.toNatClampNeg) 2) l i n))) sh I L R) (pIf (allB (fun k => isW (I ((73 + 2 * t.toNatClampNeg) + 1) (i.toNatClampNeg + k)) (-20) 20) n.toNatClampNeg) (pRet (some (.int n)) sh (u1 (forgI I) (8 + s.toNatClampNeg) (fun k => if k < n.toNatClampNeg then I ((73 + 2 * t.toNatClampNeg) + 1) (i.toNatClampNeg + k) else I (8 + s.toNatClampNeg) k)) L R) (pRet (some (.int (-2))) sh I L R))) (pRet (some (.int (-1))) sh I L R)) := by
  refine PMet.of mf_X7_rises (Nat.le_of_ble_eq_true rfl) ?_
  intro X h hr hml
  have hml : (xc X).maxLocals = 9 := hml
  have h : PXok X RX7 cX7_rises 3 0 0 := h
  have hr : PXr X (some .int) "rises" _ 0 0 := hr
  have hC0 := hC
  obtain ⟨k0, r0, r1, r2, r4, r5, r6, r7, r8, r13, r15, r16, hL, k7, r7s, k8s, k12, k20, r20s, hSs, k71, k72⟩ := hC
  have hL0 := hL
  obtain ⟨f0, f1, f2, f3, f4, f5, g1, g2, g3, g4, g5⟩ := hL
  show PW X 0 [(0, .ref 0), (1, .int s), (2, .int t), (3, .int l), (4, .int i), (5, .int n)] [] sh I L R 0 0
  refine pw_iload_n h 1 d_X7_rises_0 rfl ?_
  refine pw_callS (As := [.int _]) h d_X7_rises_1 mf_X7_isState st_yX7_isState ml_RX7_132 ⟨by decide, by decide, by decide⟩ rfl rfl (Nat.le_of_ble_eq_true rfl) c_X7_isState ?_
  refine PKk.ret ?_
  refine pw_if_eq 32 h d_X7_rises_4 (by decide) (fun c_4 => ?_) (fun c_4 => ?_)
  · skip
    rw [bI_1] at c_4
    refine pw_iconst (x := (-1)) h d_X7_rises_32 (by decide) ?_
    refine pw_iret h hr d_X7_rises_33 rfl (by decide) (by decide) ?_
    first | (refine pIf_f ?_ pRet_self; simp only [isBn, c_4, Bool.and_true, Bool.true_and, Bool.and_false, Bool.false_and]; done) | (refine pIf_f ?_ pRet_self; simp only [isBn, c_4, c_11, Bool.and_true, Bool.true_and, Bool.and_false, Bool.false_and]; done) | (refine pIf_f ?_ pRet_self; simp only [isBn, c_4, c_11, c_18, Bool.and_true, Bool.true_and, Bool.and_false, Bool.false_and]; done) | (refine pIf_f ?_ pRet_self; simp only [isBn, c_4, c_11, c_18, c_29, Bool.and_true, Bool.true_and, Bool.and_false, Bool.false_and]; done)
  · skip
    rw [bI_1, Bool.not_eq_false] at c_4
    refine pw_iload_n h 2 d_X7_rises_7 rfl ?_
    refine pw_callS (As := [.int _]) h d_X7_rises_8 mf_X7_isSheet st_yX7_isSheet ml_RX7_138 ⟨by decide, by decide, by decide⟩ rfl rfl (Nat.le_of_ble_eq_true rfl) c_X7_isSheet ?_
    refine PKk.ret ?_
    refine pw_if_eq 32 h d_X7_rises_11 (by decide) (fun c_11 => ?_) (fun c_11 => ?_)
    · skip
      rw [bI_1] at c_11
      refine pw_iconst (x := (-1)) h d_X7_rises_32 (by decide) ?_
      refine pw_iret h hr d_X7_rises_33 rfl (by decide) (by decide) ?_
      first | (refine pIf_f ?_ pRet_self; simp only [isBn, c_4, Bool.and_true, Bool.true_and, Bool.and_false, Bool.false_and]; done) | (refine pIf_f ?_ pRet_self; simp only [isBn, c_4, c_11, Bool.and_true, Bool.true_and, Bool.and_false, Bool.false_and]; done) | (refine pIf_f ?_ pRet_self; simp only [isBn, c_4, c_11, c_18, Bool.and_true, Bool.true_and, Bool.and_false, Bool.false_and]; done) | (refine pIf_f ?_ pRet_self; simp only [isBn, c_4, c_11, c_18, c_29, Bool.and_true, Bool.true_and, Bool.and_false, Bool.false_and]; done)
    · skip
      rw [bI_1, Bool.not_eq_false] at c_11
      refine pw_iload_n h 3 d_X7_rises_14 rfl ?_
      refine pw_callS (As := [.int _]) h d_X7_rises_15 mf_X7_isLane st_yX7_isLane ml_RX7_141 ⟨by decide, by decide, by decide⟩ rfl rfl (Nat.le_of_ble_eq_true rfl) c_X7_isLane ?_
      refine PKk.ret ?_
      refine pw_if_eq 32 h d_X7_rises_18 (by decide) (fun c_18 => ?_) (fun c_18 => ?_)
      · skip
        rw [bI_1] at c_18
        refine pw_iconst (x := (-1)) h d_X7_rises_32 (by decide) ?_
        refine pw_iret h hr d_X7_rises_33 rfl (by decide) (by decide) ?_
        first | (refine pIf_f ?_ pRet_self; simp only [isBn, c_4, Bool.and_true, Bool.true_and, Bool.and_false, Bool.false_and]; done) | (refine pIf_f ?_ pRet_self; simp only [isBn, c_4, c_11, Bool.and_true, Bool.true_and, Bool.and_false, Bool.false_and]; done) | (refine pIf_f ?_ pRet_self; simp only [isBn, c_4, c_11, c_18, Bool.and_true, Bool.true_and, Bool.and_false, Bool.false_and]; done) | (refine pIf_f ?_ pRet_self; simp only [isBn, c_4, c_11, c_18, c_29, Bool.and_true, Bool.true_and, Bool.and_false, Bool.false_and]; done)
      · skip
        rw [bI_1, Bool.not_eq_false] at c_18
        refine pw_iload h 5 d_X7_rises_21 rfl ?_
        refine pw_iconst (x := 0) h d_X7_rises_23 (by decide) ?_
        refine pw_bipush (x := 13) h d_X7_rises_24 (by decide) ?_
        refine pw_callS (As := [.int _, .int _, .int _]) h d_X7_rises_26 mf_X7_isWithin st_yX7_isWithin ml_RX7_97 ⟨by decide, by decide, by decide⟩ rfl rfl (Nat.le_of_ble_eq_true rfl) c_X7_isWithin ?_
        refine PKk.ret ?_
        refine pw_if_ne 34 h d_X7_rises_29 (by decide) (fun c_29 => ?_) (fun c_29 => ?_)
        · skip
          rw [bI_1, Bool.not_eq_false] at c_29
          have hx := isW_ix (N := 4) c_4 rfl (by decide)
          have hz := r7s _ (px_ix_lt hx)
          have hq := k8s _ (px_ix_lt hx)
          have hxt := isW_ix (N := 4) c_11 rfl (by decide)
          have hzt := r20s _ (px_ix_lt hxt)
          have hSt := hSs _ (px_ix_lt hxt)
          obtain ⟨q0t, q1t, q3t⟩ := id hSt
          have hn13 := k_isW (c := 0) (d := 13) c_29 rfl rfl
          have kn := k_nn hn13.1
          have env := k_nv hn13.1
          have hs4 := px_ix_lt hx
          have ht4 := px_ix_lt hxt
          refine pw_aload_n h 0 d_X7_rises_34 rfl ?_
          refine pw_getR (j := 20) 7 h d_X7_rises_35 fd_RX7_38 (by assumption) rfl (by assumption) ?_
          refine pw_iload_n h 2 d_X7_rises_38 rfl ?_
          refine pw_aald (z := (73 + 2 * t.toNatClampNeg)) h d_X7_rises_39 (by assumption) rfl rfl (t0 := 3) (fun _ => rfl) (by assumption) (by assumption) ?_
          refine pw_astore (lv' := [(6, .ref (73 + 2 * t.toNatClampNeg)), (0, .ref 0), (1, .int s), (2, .int t), (3, .int l), (4, .int i), (5, .int n)]) h d_X7_rises_40 _ hml (by decide) rfl ?_
          refine pw_aload h 0 d_X7_rises_42 rfl ?_
          refine pw_iload_n h 4 d_X7_rises_44 rfl ?_
          refine pw_iload h 5 d_X7_rises_45 rfl ?_
          refine pw_iload h 6 d_X7_rises_47 rfl ?_
          refine pw_callV (As := [.int _, .int _, .int _]) h d_X7_rises_49 mf_X6_faultOf mi_X6_faultOf ml_RX7_144 ⟨by decide, by decide, by decide⟩ (by assumption) rfl rfl (Nat.le_of_ble_eq_true rfl) trivial (c_X6_faultOf hSt l i n) ?_
          refine PKk.ret ?_
          refine pw_nmI (fun v7_52 e7_52 => ?_)
          refine pw_istore (lv' := [(7, .int v7_52), (6, .ref (73 + 2 * t.toNatClampNeg)), (0, .ref 0), (1, .int s), (2, .int t), (3, .int l), (4, .int i), (5, .int n)]) h d_X7_rises_52 _ hml (by decide) rfl ?_
          refine pw_iload h 0 d_X7_rises_54 rfl ?_
          refine pw_if_ge 62 h d_X7_rises_56 (by decide) (fun c_56 => ?_) (fun c_56 => ?_)
          · skip
            rw [e7_52] at c_56
            have hf := faultS_ok (nlt_of_ge c_56)
            have hcz := hsz _ (px_ix_lt hxt)
            refine pw_iconst (x := 0) h d_X7_rises_62 (by decide) ?_
            refine pw_nmI (fun v8_63 e8_63 => ?_)
            refine pw_istore (lv' := [(8, .int v8_63), (7, .int v7_52), (6, .ref (73 + 2 * t.toNatClampNeg)), (0, .ref 0), (1, .int s), (2, .int t), (3, .int l), (4, .int i), (5, .int n)]) h d_X7_rises_63 _ hml (by decide) rfl ?_
            have cut_65 : ∀ (N k : Nat) (v : Int32), n.toNatClampNeg < k + N → k ≤ n.toNatClampNeg → v = nI k → allB (fun k => isW (I ((73 + 2 * t.toNatClampNeg) + 1) (i.toNatClampNeg + k)) (-20) 20) k = true → PW X 65 [(0, .ref 0), (1, .int s), (2, .int t), (3, .int l), (4, .int i), (5, .int n), (6, .ref (73 + 2 * t.toNatClampNeg)), (8, .int v)] [] sh I L R 0 0 := by
              intro N
              induction N with
              | zero => intros; omega
              | succ N ih =>
                intro k v hN hi ev hal
                refine pw_iload h 7 d_X7_rises_65 rfl ?_
                refine pw_iload h 5 d_X7_rises_67 rfl ?_
                refine pw_icmp_ge 98 h d_X7_rises_69 (by decide) (fun c_69 => ?_) (fun c_69 => ?_)
                · skip
                  have hge := k_ge ev env (by omega) (by omega) c_69
                  have ek : k = n.toNatClampNeg := by omega
                  subst ek
                  refine pw_aload_n h 0 d_X7_rises_98 rfl ?_
                  refine pw_callV (As := []) h d_X7_rises_99 mf_X7_forgetAnswers mi_X7_forgetAnswers ml_RX7_108 ⟨by decide, by decide, by decide⟩ (by assumption) rfl rfl (Nat.le_of_ble_eq_true rfl) trivial (c_X7_forgetAnswers hC0) ?_
                  refine PKk.ret ?_
                  refine pw_iconst (x := 0) h d_X7_rises_102 (by decide) ?_
                  refine pw_nmI (fun v8_103 e8_103 => ?_)
                  refine pw_istore (lv' := [(8, .int v8_103), (0, .ref 0), (1, .int s), (2, .int t), (3, .int l), (4, .int i), (5, .int n), (6, .ref (73 + 2 * t.toNatClampNeg))]) h d_X7_rises_103 _ hml (by decide) rfl ?_
                  have cut_105 : ∀ (N k : Nat) (v : Int32), n.toNatClampNeg < k + N → k ≤ n.toNatClampNeg → v = nI k → PW X 105 [(0, .ref 0), (1, .int s), (4, .int i), (5, .int n), (6, .ref (73 + 2 * t.toNatClampNeg)), (8, .int v)] [] sh (u1 (forgI I) (8 + s.toNatClampNeg) (fun j => if j < k then I ((73 + 2 * t.toNatClampNeg) + 1) (i.toNatClampNeg + j) else I (8 + s.toNatClampNeg) j)) L R 0 0 := by
                    intro N
                    induction N with
                    | zero => intros; omega
                    | succ N ih =>
                      intro k v hN hi ev
                      refine pw_iload h 5 d_X7_rises_105 rfl ?_
                      refine pw_iload h 3 d_X7_rises_107 rfl ?_
                      refine pw_icmp_ge 138 h d_X7_rises_109 (by decide) (fun c_109 => ?_) (fun c_109 => ?_)
                      · skip
                        have hge := k_ge ev env (by omega) (by omega) c_109
                        have ek : k = n.toNatClampNeg := by omega
                        subst ek
                        refine pw_iload h 3 d_X7_rises_138 rfl ?_
                        refine pw_iret h hr d_X7_rises_140 rfl (by decide) (by decide) ?_
                        exact pIf_t (by simp only [isBn, c_4, c_11, c_18, c_29, Bool.and_true, Bool.true_and, Bool.and_false, Bool.false_and]) (pIf_f (decide_eq_false (nlt_of_ge c_56)) (pIf_t hal pRet_self))
                      · skip
                        have hlt := k_lt ev env (by omega) (by omega) c_109
                        have hxi : px_ix (i + v) 13 (i.toNatClampNeg + k) := by rw [ev]; exact hasB_ix hf.2.2 hcz (by omega)
                        have hxk : px_ix v 13 k := k_ix ev (by omega) (by decide)
                        refine pw_aload_n h 0 d_X7_rises_112 rfl ?_
                        refine pw_getR (j := 7) 7 h d_X7_rises_113 fd_RX7_18 (by assumption) rfl (by assumption) ?_
                        refine pw_iload_n h 1 d_X7_rises_116 rfl ?_
                        refine pw_aald (z := (8 + s.toNatClampNeg)) h d_X7_rises_117 (by assumption) rfl rfl (t0 := 4) (fun _ => rfl) (by assumption) (by assumption) ?_
                        refine pw_iload h 5 d_X7_rises_118 rfl ?_
                        refine pw_aload h 4 d_X7_rises_120 rfl ?_
                        refine pw_getR (j := ((73 + 2 * t.toNatClampNeg) + 1)) 6 h d_X7_rises_122 fd_RX7_148 (by assumption) rfl (by assumption) ?_
                        refine pw_iload h 2 d_X7_rises_125 rfl ?_
                        refine pw_iload h 5 d_X7_rises_127 rfl ?_
                        refine pw_iadd h d_X7_rises_129 ?_
                        refine pw_iald h d_X7_rises_130 (by assumption) (by assumption) ?_
                        refine pw_iast h d_X7_rises_131 (by assumption) (by assumption) ?_
                        obtain ⟨v8_132, e8_132⟩ : ∃ z : Int32, z = v + (1) := ⟨_, rfl⟩
                        refine pw_iinc (lv' := [(8, .int v8_132), (0, .ref 0), (1, .int s), (4, .int i), (5, .int n), (6, .ref (73 + 2 * t.toNatClampNeg))]) v8_132 h d_X7_rises_132 5 rfl e8_132.symm _ hml (by decide) rfl ?_
                        refine pw_goto 105 h d_X7_rises_135 (by decide) ?_
                        refine PW.perm [1, 2, 3, 4, 5, 0] rfl ?_
                        refine pw_mem ?_ rfl rfl (ih (k + 1) v8_132 (by omega) (by omega) (k_up e8_132 ev))
                        rw [u1_n (by omega), forgI_at (by omega)]
                        exact u1_stepF (F := fun j => I ((73 + 2 * t.toNatClampNeg) + 1) (i.toNatClampNeg + j))
                  refine PW.perm [1, 2, 5, 6, 7, 0] rfl ?_
                  refine pw_mem ?_ rfl rfl (cut_105 (n.toNatClampNeg + 1) 0 v8_103 (by omega) (by omega) e8_103)
                  exact u1_noneF (fun j => forgI_at (by omega))
                · skip
                  have hlt := k_lt ev env (by omega) (by omega) c_69
                  have hxi : px_ix (i + v) 13 (i.toNatClampNeg + k) := by rw [ev]; exact hasB_ix hf.2.2 hcz (by omega)
                  refine pw_aload h 6 d_X7_rises_72 rfl ?_
                  refine pw_getR (j := ((73 + 2 * t.toNatClampNeg) + 1)) 6 h d_X7_rises_74 fd_RX7_148 (by assumption) rfl (by assumption) ?_
                  refine pw_iload h 4 d_X7_rises_77 rfl ?_
                  refine pw_iload h 7 d_X7_rises_79 rfl ?_
                  refine pw_iadd h d_X7_rises_81 ?_
                  refine pw_iald h d_X7_rises_82 (by assumption) (by assumption) ?_
                  refine pw_callS (As := [.int _]) h d_X7_rises_83 mf_X7_isRise st_yX7_isRise ml_RX7_135 ⟨by decide, by decide, by decide⟩ rfl rfl (Nat.le_of_ble_eq_true rfl) c_X7_isRise ?_
                  refine PKk.ret ?_
                  refine pw_if_ne 92 h d_X7_rises_86 (by decide) (fun c_86 => ?_) (fun c_86 => ?_)
                  · skip
                    rw [bI_1, Bool.not_eq_false] at c_86
                    obtain ⟨v8_92, e8_92⟩ : ∃ z : Int32, z = v + (1) := ⟨_, rfl⟩
                    refine pw_iinc (lv' := [(8, .int v8_92), (0, .ref 0), (1, .int s), (2, .int t), (3, .int l), (4, .int i), (5, .int n), (6, .ref (73 + 2 * t.toNatClampNeg))]) v8_92 h d_X7_rises_92 7 rfl e8_92.symm _ hml (by decide) rfl ?_
                    refine pw_goto 65 h d_X7_rises_95 (by decide) ?_
                    refine PW.perm [1, 2, 3, 4, 5, 6, 7, 0] rfl ?_
                    exact ih (k + 1) v8_92 (by omega) (by omega) (k_up e8_92 ev) (by simp only [allB, hal, c_86, Bool.and_true])
                  · skip
                    rw [bI_1] at c_86
                    refine pw_bipush (x := (-2)) h d_X7_rises_89 (by decide) ?_
                    refine pw_iret h hr d_X7_rises_91 rfl (by decide) (by decide) ?_
                    exact pIf_t (by simp only [isBn, c_4, c_11, c_18, c_29, Bool.and_true, Bool.true_and, Bool.and_false, Bool.false_and]) (pIf_f (decide_eq_false (nlt_of_ge c_56)) (pIf_f (allB_f (g := fun k => isW (I ((73 + 2 * t.toNatClampNeg) + 1) (i.toNatClampNeg + k)) (-20) 20) c_86 _ hlt) pRet_self))
            refine PW.perm [3, 4, 5, 6, 7, 8, 2, 0] rfl ?_
            exact cut_65 (n.toNatClampNeg + 1) 0 v8_63 (by omega) (by omega) e8_63 rfl
          · skip
            rw [e7_52] at c_56
            refine pw_iload h 0 d_X7_rises_59 rfl ?_
            refine pw_iret h hr d_X7_rises_61 rfl (by decide) (by decide) ?_
            rw [e7_52]
            exact pIf_t (by simp only [isBn, c_4, c_11, c_18, c_29, Bool.and_true, Bool.true_and, Bool.and_false, Bool.false_and]) (pIf_t (decide_eq_true (lt_of_nge c_56)) pRet_self)
        · skip
          rw [bI_1] at c_29
          refine pw_iconst (x := (-1)) h d_X7_rises_32 (by decide) ?_
          refine pw_iret h hr d_X7_rises_33 rfl (by decide) (by decide) ?_
          first | (refine pIf_f ?_ pRet_self; simp only [isBn, c_4, Bool.and_true, Bool.true_and, Bool.and_false, Bool.false_and]; done) | (refine pIf_f ?_ pRet_self; simp only [isBn, c_4, c_11, Bool.and_true, Bool.true_and, Bool.and_false, Bool.false_and]; done) | (refine pIf_f ?_ pRet_self; simp only [isBn, c_4, c_11, c_18, Bool.and_true, Bool.true_and, Bool.and_false, Bool.false_and]; done) | (refine pIf_f ?_ pRet_self; simp only [isBn, c_4, c_11, c_18, c_29, Bool.and_true, Bool.true_and, Bool.and_false, Bool.false_and]; done)

set_option maxHeartbeats 4000000 in
set_option maxRecDepth 100000 in
theorem c_X8_finds {sh : Sh} {I : IM} {L : LM} {R : RM} {m : Nat} (hM : ModF sh R m) {s' : Nat} {s : Int32} (hx : px_ix s 4 s') (l i n : Int32) : PMet M_X8_finds [.ref m, .int s, .int l, .int i, .int n] sh I L R (pRet (some (.int (faultM (I (m + 24) s') (I (m + 25) s') l i n))) sh I L R) := by
  refine PMet.of mf_X8_finds (Nat.le_of_ble_eq_true rfl) ?_
  intro X h hr hml
  have hml : (xc X).maxLocals = 5 := hml
  have h : PXok X RX8 cX8_finds 1 0 0 := h
  have hr : PXr X (some .int) "finds" _ 0 0 := hr
  have hM0 := hM
  obtain ⟨f0, f1, f2, f3, f4, f5, f6, f7, f8, f9, f10, f11, f12, f13, f14, f15, f16, f17, f18, f19, f20, f21, f22, f23, f24, f25, f26, f27, g1, g2, g3, g4, g5, g6, g7, g8, g9, g10, g11, g12, g13, g14, g15, g16, g17, g18, g19, g20, g21, g22, g23, g24, g25, g26, g27⟩ := hM
  show PW X 0 [(0, .ref m), (1, .int s), (2, .int l), (3, .int i), (4, .int n)] [] sh I L R 0 0
  refine pw_aload_n h 0 d_X8_finds_0 rfl ?_
  refine pw_getR (j := (m + 24)) 8 h d_X8_finds_1 fd_RX8_91 (by assumption) rfl (by assumption) ?_
  refine pw_iload_n h 1 d_X8_finds_4 rfl ?_
  refine pw_iald h d_X8_finds_5 (by assumption) (by assumption) ?_
  refine pw_if_ge 12 h d_X8_finds_6 (by decide) (fun c_6 => ?_) (fun c_6 => ?_)
  · skip
    refine pw_aload_n h 0 d_X8_finds_12 rfl ?_
    refine pw_getR (j := (m + 24)) 8 h d_X8_finds_13 fd_RX8_91 (by assumption) rfl (by assumption) ?_
    refine pw_iload_n h 1 d_X8_finds_16 rfl ?_
    refine pw_iald h d_X8_finds_17 (by assumption) (by assumption) ?_
    refine pw_iload_n h 2 d_X8_finds_18 rfl ?_
    refine pw_icmp_eq 25 h d_X8_finds_19 (by decide) (fun c_19 => ?_) (fun c_19 => ?_)
    · skip
      refine pw_iload_n h 3 d_X8_finds_25 rfl ?_
      refine pw_if_lt 46 h d_X8_finds_26 (by decide) (fun c_26 => ?_) (fun c_26 => ?_)
      · skip
        refine pw_bipush (x := (-13)) h d_X8_finds_46 (by decide) ?_
        refine pw_goto 52 h d_X8_finds_48 (by decide) ?_
        refine pw_iret h hr d_X8_finds_52 rfl (by decide) (by decide) ?_
        refine ⟨congrArg (fun z => some (Value.int z)) ?_, rfl, rfl, rfl, rfl⟩
        unfold faultM hasM
        try simp only [lc_le, i64_add, Int32.toInt_toInt64] at *
        simp only [Int32.lt_iff_toInt_lt, Int32.le_iff_toInt_le, show (0 : Int32).toInt = 0 from rfl] at *
        first | rw [if_pos (by omega)] | rw [if_neg (by omega), if_neg (by assumption)] | rw [if_neg (by omega), if_pos (by assumption), if_pos (decide_eq_true (by omega))] | rw [if_neg (by omega), if_pos (by assumption), if_neg (by rw [decide_eq_true_eq]; omega)]
      · skip
        refine pw_iload_n h 3 d_X8_finds_29 rfl ?_
        refine pw_i2l h d_X8_finds_30 ?_
        refine pw_iload h 4 d_X8_finds_31 rfl ?_
        refine pw_i2l h d_X8_finds_33 ?_
        refine pw_ladd h d_X8_finds_34 ?_
        refine pw_aload_n h 0 d_X8_finds_35 rfl ?_
        refine pw_getR (j := (m + 25)) 8 h d_X8_finds_36 fd_RX8_94 (by assumption) rfl (by assumption) ?_
        refine pw_iload_n h 1 d_X8_finds_39 rfl ?_
        refine pw_iald h d_X8_finds_40 (by assumption) (by assumption) ?_
        refine pw_i2l h d_X8_finds_41 ?_
        refine pw_lcmp h d_X8_finds_42 ?_
        refine pw_if_le 51 h d_X8_finds_43 (by decide) (fun c_43 => ?_) (fun c_43 => ?_)
        · skip
          refine pw_iconst (x := 0) h d_X8_finds_51 (by decide) ?_
          refine pw_iret h hr d_X8_finds_52 rfl (by decide) (by decide) ?_
          refine ⟨congrArg (fun z => some (Value.int z)) ?_, rfl, rfl, rfl, rfl⟩
          unfold faultM hasM
          try simp only [lc_le, i64_add, Int32.toInt_toInt64] at *
          simp only [Int32.lt_iff_toInt_lt, Int32.le_iff_toInt_le, show (0 : Int32).toInt = 0 from rfl] at *
          first | rw [if_pos (by omega)] | rw [if_neg (by omega), if_neg (by assumption)] | rw [if_neg (by omega), if_pos (by assumption), if_pos (decide_eq_true (by omega))] | rw [if_neg (by omega), if_pos (by assumption), if_neg (by rw [decide_eq_true_eq]; omega)]
        · skip
          refine pw_bipush (x := (-13)) h d_X8_finds_46 (by decide) ?_
          refine pw_goto 52 h d_X8_finds_48 (by decide) ?_
          refine pw_iret h hr d_X8_finds_52 rfl (by decide) (by decide) ?_
          refine ⟨congrArg (fun z => some (Value.int z)) ?_, rfl, rfl, rfl, rfl⟩
          unfold faultM hasM
          try simp only [lc_le, i64_add, Int32.toInt_toInt64] at *
          simp only [Int32.lt_iff_toInt_lt, Int32.le_iff_toInt_le, show (0 : Int32).toInt = 0 from rfl] at *
          first | rw [if_pos (by omega)] | rw [if_neg (by omega), if_neg (by assumption)] | rw [if_neg (by omega), if_pos (by assumption), if_pos (decide_eq_true (by omega))] | rw [if_neg (by omega), if_pos (by assumption), if_neg (by rw [decide_eq_true_eq]; omega)]
    · skip
      refine pw_bipush (x := (-12)) h d_X8_finds_22 (by decide) ?_
      refine pw_iret h hr d_X8_finds_24 rfl (by decide) (by decide) ?_
      refine ⟨congrArg (fun z => some (Value.int z)) ?_, rfl, rfl, rfl, rfl⟩
      unfold faultM hasM
      try simp only [lc_le, i64_add, Int32.toInt_toInt64] at *
      simp only [Int32.lt_iff_toInt_lt, Int32.le_iff_toInt_le, show (0 : Int32).toInt = 0 from rfl] at *
      first | rw [if_pos (by omega)] | rw [if_neg (by omega), if_neg (by assumption)] | rw [if_neg (by omega), if_pos (by assumption), if_pos (decide_eq_true (by omega))] | rw [if_neg (by omega), if_pos (by assumption), if_neg (by rw [decide_eq_true_eq]; omega)]
  · skip
    refine pw_bipush (x := (-11)) h d_X8_finds_9 (by decide) ?_
    refine pw_iret h hr d_X8_finds_11 rfl (by decide) (by decide) ?_
    refine ⟨congrArg (fun z => some (Value.int z)) ?_, rfl, rfl, rfl, rfl⟩
    unfold faultM hasM
    try simp only [lc_le, i64_add, Int32.toInt_toInt64] at *
    simp only [Int32.lt_iff_toInt_lt, Int32.le_iff_toInt_le, show (0 : Int32).toInt = 0 from rfl] at *
    first | rw [if_pos (by omega)] | rw [if_neg (by omega), if_neg (by assumption)] | rw [if_neg (by omega), if_pos (by assumption), if_pos (decide_eq_true (by omega))] | rw [if_neg (by omega), if_pos (by assumption), if_neg (by rw [decide_eq_true_eq]; omega)]

set_option maxHeartbeats 4000000 in
set_option maxRecDepth 100000 in
theorem c_X8_sheet {sh : Sh} {I : IM} {L : LM} {R : RM} {m : Nat} (hM : ModF sh R m) (s l n : Int32) : PMet M_X8_sheet [.ref m, .int s, .int l, .int n] sh I L R (pIf (isW s 0 3 && isW l 0 2 && decide (n ≤ 13)) (pIf (decide (0 ≤ n)) (pRet (some (.int n)) sh (u1 (u2 (u2 I (m + 24) s.toNatClampNeg l) (m + 25) s.toNatClampNeg n) (m + 26) (fun k => if 13 * s.toNatClampNeg ≤ k ∧ k < 13 * s.toNatClampNeg + 13 then 0 else I (m + 26) k)) L R) (pRet (some (.int (-14))) sh I L R)) (pRet (some (.int (-1))) sh I L R)) := by
  refine PMet.of mf_X8_sheet (Nat.le_of_ble_eq_true rfl) ?_
  intro X h hr hml
  have hml : (xc X).maxLocals = 5 := hml
  have h : PXok X RX8 cX8_sheet 3 0 0 := h
  have hr : PXr X (some .int) "sheet" _ 0 0 := hr
  have hM0 := hM
  obtain ⟨f0, f1, f2, f3, f4, f5, f6, f7, f8, f9, f10, f11, f12, f13, f14, f15, f16, f17, f18, f19, f20, f21, f22, f23, f24, f25, f26, f27, g1, g2, g3, g4, g5, g6, g7, g8, g9, g10, g11, g12, g13, g14, g15, g16, g17, g18, g19, g20, g21, g22, g23, g24, g25, g26, g27⟩ := hM
  show PW X 0 [(0, .ref m), (1, .int s), (2, .int l), (3, .int n)] [] sh I L R 0 0
  refine pw_iload_n h 1 d_X8_sheet_0 rfl ?_
  refine pw_callS (As := [.int _]) h d_X8_sheet_1 mf_X8_isSheet st_yX8_isSheet ml_RX8_140 ⟨by decide, by decide, by decide⟩ rfl rfl (Nat.le_of_ble_eq_true rfl) c_X8_isSheet ?_
  refine PKk.ret ?_
  refine pw_if_eq 20 h d_X8_sheet_4 (by decide) (fun c_4 => ?_) (fun c_4 => ?_)
  · skip
    rw [bI_1] at c_4
    refine pw_iconst (x := (-1)) h d_X8_sheet_20 (by decide) ?_
    refine pw_iret h hr d_X8_sheet_21 rfl (by decide) (by decide) ?_
    first | (refine pIf_f ?_ pRet_self; simp only [isBn, c_4, Bool.and_true, Bool.true_and, Bool.and_false, Bool.false_and]; done) | (refine pIf_f ?_ pRet_self; simp only [isBn, c_4, c_11, Bool.and_true, Bool.true_and, Bool.and_false, Bool.false_and]; done) | (refine pIf_f ?_ pRet_self; simp only [isBn, c_4, c_11, c_17, Bool.and_true, Bool.true_and, Bool.and_false, Bool.false_and]; done)
  · skip
    rw [bI_1, Bool.not_eq_false] at c_4
    refine pw_iload_n h 2 d_X8_sheet_7 rfl ?_
    refine pw_callS (As := [.int _]) h d_X8_sheet_8 mf_X8_isLane st_yX8_isLane ml_RX8_143 ⟨by decide, by decide, by decide⟩ rfl rfl (Nat.le_of_ble_eq_true rfl) c_X8_isLane ?_
    refine PKk.ret ?_
    refine pw_if_eq 20 h d_X8_sheet_11 (by decide) (fun c_11 => ?_) (fun c_11 => ?_)
    · skip
      rw [bI_1] at c_11
      refine pw_iconst (x := (-1)) h d_X8_sheet_20 (by decide) ?_
      refine pw_iret h hr d_X8_sheet_21 rfl (by decide) (by decide) ?_
      first | (refine pIf_f ?_ pRet_self; simp only [isBn, c_4, Bool.and_true, Bool.true_and, Bool.and_false, Bool.false_and]; done) | (refine pIf_f ?_ pRet_self; simp only [isBn, c_4, c_11, Bool.and_true, Bool.true_and, Bool.and_false, Bool.false_and]; done) | (refine pIf_f ?_ pRet_self; simp only [isBn, c_4, c_11, c_17, Bool.and_true, Bool.true_and, Bool.and_false, Bool.false_and]; done)
    · skip
      rw [bI_1, Bool.not_eq_false] at c_11
      refine pw_iload_n h 3 d_X8_sheet_14 rfl ?_
      refine pw_bipush (x := 13) h d_X8_sheet_15 (by decide) ?_
      refine pw_icmp_le 22 h d_X8_sheet_17 (by decide) (fun c_17 => ?_) (fun c_17 => ?_)
      · skip
        have c_17 : decide (n ≤ 13) = true := decide_eq_true c_17
        refine pw_iload_n h 3 d_X8_sheet_22 rfl ?_
        refine pw_if_ge 29 h d_X8_sheet_23 (by decide) (fun c_23 => ?_) (fun c_23 => ?_)
        · skip
          have c_23 : decide (0 ≤ n) = true := decide_eq_true c_23
          have hx := isW_ix (N := 4) c_4 rfl (by decide)
          refine pw_aload_n h 0 d_X8_sheet_29 rfl ?_
          refine pw_getR (j := (m + 24)) 8 h d_X8_sheet_30 fd_RX8_91 (by assumption) rfl (by assumption) ?_
          refine pw_iload_n h 1 d_X8_sheet_33 rfl ?_
          refine pw_iload_n h 2 d_X8_sheet_34 rfl ?_
          refine pw_iast h d_X8_sheet_35 (by assumption) (by assumption) ?_
          refine pw_aload_n h 0 d_X8_sheet_36 rfl ?_
          refine pw_getR (j := (m + 25)) 8 h d_X8_sheet_37 fd_RX8_94 (by assumption) rfl (by assumption) ?_
          refine pw_iload_n h 1 d_X8_sheet_40 rfl ?_
          refine pw_iload_n h 3 d_X8_sheet_41 rfl ?_
          refine pw_iast h d_X8_sheet_42 (by assumption) (by assumption) ?_
          refine pw_iconst (x := 0) h d_X8_sheet_43 (by decide) ?_
          refine pw_nmI (fun v4_44 e4_44 => ?_)
          refine pw_istore (lv' := [(4, .int v4_44), (0, .ref m), (1, .int s), (2, .int l), (3, .int n)]) h d_X8_sheet_44 _ hml (by decide) rfl ?_
          have cut_46 : ∀ (N k : Nat) (v : Int32), 13 < k + N → k ≤ 13 → v = nI k → PW X 46 [(0, .ref m), (1, .int s), (3, .int n), (4, .int v)] [] sh (u1 (u2 (u2 I (m + 24) s.toNatClampNeg l) (m + 25) s.toNatClampNeg n) (m + 26) (fun j => if 13 * s.toNatClampNeg ≤ j ∧ j < 13 * s.toNatClampNeg + k then 0 else I (m + 26) j)) L R 0 0 := by
            intro N
            induction N with
            | zero => intros; omega
            | succ N ih =>
              intro k v hN hi ev
              refine pw_iload h 3 d_X8_sheet_46 rfl ?_
              refine pw_bipush (x := 13) h d_X8_sheet_48 (by decide) ?_
              refine pw_icmp_ge 72 h d_X8_sheet_50 (by decide) (fun c_50 => ?_) (fun c_50 => ?_)
              · skip
                have hge := k_ge ev (n := 13) rfl (by omega) (by omega) c_50
                have ek : k = 13 := by omega
                subst ek
                refine pw_iload_n h 2 d_X8_sheet_72 rfl ?_
                refine pw_iret h hr d_X8_sheet_73 rfl (by decide) (by decide) ?_
                exact pIf_t (by simp only [isBn, c_4, c_11, c_17, Bool.and_true, Bool.true_and, Bool.and_false, Bool.false_and]) (pIf_t c_23 pRet_self)
              · skip
                have hlt := k_lt ev (n := 13) rfl (by omega) (by omega) c_50
                have hxi := px_ix_13 hx (k_ix ev hlt (by decide))
                refine pw_aload_n h 0 d_X8_sheet_53 rfl ?_
                refine pw_getR (j := (m + 26)) 8 h d_X8_sheet_54 fd_RX8_97 (by assumption) rfl (by assumption) ?_
                refine pw_bipush (x := 13) h d_X8_sheet_57 (by decide) ?_
                refine pw_iload_n h 1 d_X8_sheet_59 rfl ?_
                refine pw_imul h d_X8_sheet_60 ?_
                refine pw_iload h 3 d_X8_sheet_61 rfl ?_
                refine pw_iadd h d_X8_sheet_63 ?_
                refine pw_iconst (x := 0) h d_X8_sheet_64 (by decide) ?_
                refine pw_iast h d_X8_sheet_65 (by assumption) (by assumption) ?_
                obtain ⟨v4_66, e4_66⟩ : ∃ z : Int32, z = v + (1) := ⟨_, rfl⟩
                refine pw_iinc (lv' := [(4, .int v4_66), (0, .ref m), (1, .int s), (3, .int n)]) v4_66 h d_X8_sheet_66 3 rfl e4_66.symm _ hml (by decide) rfl ?_
                refine pw_goto 46 h d_X8_sheet_69 (by decide) ?_
                refine PW.perm [1, 2, 3, 0] rfl ?_
                refine pw_mem ?_ rfl rfl (ih (k + 1) v4_66 (by omega) (by omega) (k_up e4_66 ev))
                exact u1_stepR (F := fun _ => 0)
          refine PW.perm [1, 2, 4, 0] rfl ?_
          refine pw_mem ?_ rfl rfl (cut_46 14 0 v4_44 (by omega) (by omega) e4_44)
          exact u1_noneR (F := fun _ => 0) (fun j => by rw [u2_n1 (by omega), u2_n1 (by omega)])
        · skip
          have c_23 : decide (0 ≤ n) = false := decide_eq_false c_23
          refine pw_bipush (x := (-14)) h d_X8_sheet_26 (by decide) ?_
          refine pw_iret h hr d_X8_sheet_28 rfl (by decide) (by decide) ?_
          exact pIf_t (by simp only [isBn, c_4, c_11, c_17, Bool.and_true, Bool.true_and, Bool.and_false, Bool.false_and]) (pIf_f c_23 pRet_self)
      · skip
        have c_17 : decide (n ≤ 13) = false := decide_eq_false c_17
        refine pw_iconst (x := (-1)) h d_X8_sheet_20 (by decide) ?_
        refine pw_iret h hr d_X8_sheet_21 rfl (by decide) (by decide) ?_
        first | (refine pIf_f ?_ pRet_self; simp only [isBn, c_4, Bool.and_true, Bool.true_and, Bool.and_false, Bool.false_and]; done) | (refine pIf_f ?_ pRet_self; simp only [isBn, c_4, c_11, Bool.and_true, Bool.true_and, Bool.and_false, Bool.false_and]; done) | (refine pIf_f ?_ pRet_self; simp only [isBn, c_4, c_11, c_17, Bool.and_true, Bool.true_and, Bool.and_false, Bool.false_and]; done)

set_option maxHeartbeats 4000000 in
set_option maxRecDepth 100000 in
theorem c_X8_drop {sh : Sh} {I : IM} {L : LM} {R : RM} {m : Nat} (hM : ModF sh R m) (s : Int32) : PMet M_X8_drop [.ref m, .int s] sh I L R (pIf (isW s 0 3) (pIf (decide (I (m + 24) s.toNatClampNeg < 0)) (pRet (some (.int (-11))) sh I L R) (pRet (some (.int (I (m + 25) s.toNatClampNeg))) sh (u2 I (m + 24) s.toNatClampNeg (-1)) L R)) (pRet (some (.int (-1))) sh I L R)) := by
  refine PMet.of mf_X8_drop (Nat.le_of_ble_eq_true rfl) ?_
  intro X h hr hml
  have hml : (xc X).maxLocals = 2 := hml
  have h : PXok X RX8 cX8_drop 3 0 0 := h
  have hr : PXr X (some .int) "drop" _ 0 0 := hr
  have hM0 := hM
  obtain ⟨f0, f1, f2, f3, f4, f5, f6, f7, f8, f9, f10, f11, f12, f13, f14, f15, f16, f17, f18, f19, f20, f21, f22, f23, f24, f25, f26, f27, g1, g2, g3, g4, g5, g6, g7, g8, g9, g10, g11, g12, g13, g14, g15, g16, g17, g18, g19, g20, g21, g22, g23, g24, g25, g26, g27⟩ := hM
  show PW X 0 [(0, .ref m), (1, .int s)] [] sh I L R 0 0
  refine pw_iload_n h 1 d_X8_drop_0 rfl ?_
  refine pw_callS (As := [.int _]) h d_X8_drop_1 mf_X8_isSheet st_yX8_isSheet ml_RX8_140 ⟨by decide, by decide, by decide⟩ rfl rfl (Nat.le_of_ble_eq_true rfl) c_X8_isSheet ?_
  refine PKk.ret ?_
  refine pw_if_ne 9 h d_X8_drop_4 (by decide) (fun c_4 => ?_) (fun c_4 => ?_)
  · skip
    rw [bI_1, Bool.not_eq_false] at c_4
    have hx := isW_ix (N := 4) c_4 rfl (by decide)
    refine pw_aload_n h 0 d_X8_drop_9 rfl ?_
    refine pw_getR (j := (m + 24)) 8 h d_X8_drop_10 fd_RX8_91 (by assumption) rfl (by assumption) ?_
    refine pw_iload_n h 1 d_X8_drop_13 rfl ?_
    refine pw_iald h d_X8_drop_14 (by assumption) (by assumption) ?_
    refine pw_if_ge 21 h d_X8_drop_15 (by decide) (fun c_15 => ?_) (fun c_15 => ?_)
    · skip
      refine pw_aload_n h 0 d_X8_drop_21 rfl ?_
      refine pw_getR (j := (m + 24)) 8 h d_X8_drop_22 fd_RX8_91 (by assumption) rfl (by assumption) ?_
      refine pw_iload_n h 1 d_X8_drop_25 rfl ?_
      refine pw_iconst (x := (-1)) h d_X8_drop_26 (by decide) ?_
      refine pw_iast h d_X8_drop_27 (by assumption) (by assumption) ?_
      refine pw_aload_n h 0 d_X8_drop_28 rfl ?_
      refine pw_getR (j := (m + 25)) 8 h d_X8_drop_29 fd_RX8_94 (by assumption) rfl (by assumption) ?_
      refine pw_iload_n h 1 d_X8_drop_32 rfl ?_
      refine pw_iald h d_X8_drop_33 (by assumption) (by assumption) ?_
      refine pw_iret h hr d_X8_drop_34 rfl (by decide) (by decide) ?_
      rw [u2_n1 (by omega)]
      exact pIf_t c_4 (pIf_f (decide_eq_false (nlt_of_ge c_15)) pRet_self)
    · skip
      refine pw_bipush (x := (-11)) h d_X8_drop_18 (by decide) ?_
      refine pw_iret h hr d_X8_drop_20 rfl (by decide) (by decide) ?_
      exact pIf_t c_4 (pIf_t (decide_eq_true (lt_of_nge c_15)) pRet_self)
  · skip
    rw [bI_1] at c_4
    refine pw_iconst (x := (-1)) h d_X8_drop_7 (by decide) ?_
    refine pw_iret h hr d_X8_drop_8 rfl (by decide) (by decide) ?_
    exact pIf_f c_4 pRet_self

set_option maxHeartbeats 4000000 in
set_option maxRecDepth 100000 in
theorem c_X8_item {sh : Sh} {I : IM} {L : LM} {R : RM} {m : Nat} (hM : ModF sh R m) (hsz : ∀ j, j < 4 → (I (m + 25) j).toInt ≤ 13) (s l i v : Int32) : PMet M_X8_item [.ref m, .int s, .int l, .int i, .int v] sh I L R (pIf (isW s 0 3 && isW l 0 2) (pIf (decide (faultM (I (m + 24) s.toNatClampNeg) (I (m + 25) s.toNatClampNeg) l i 1 < 0)) (pRet (some (.int (faultM (I (m + 24) s.toNatClampNeg) (I (m + 25) s.toNatClampNeg) l i 1))) sh I L R) (pRet (some (.int 1)) sh (u2 I (m + 26) (13 * s.toNatClampNeg + i.toNatClampNeg) (nrw l v)) L R)) (pRet (some (.int (-1))) sh I L R)) := by
  refine PMet.of mf_X8_item (Nat.le_of_ble_eq_true rfl) ?_
  intro X h hr hml
  have hml : (xc X).maxLocals = 6 := hml
  have h : PXok X RX8 cX8_item 3 0 0 := h
  have hr : PXr X (some .int) "item" _ 0 0 := hr
  have hM0 := hM
  obtain ⟨f0, f1, f2, f3, f4, f5, f6, f7, f8, f9, f10, f11, f12, f13, f14, f15, f16, f17, f18, f19, f20, f21, f22, f23, f24, f25, f26, f27, g1, g2, g3, g4, g5, g6, g7, g8, g9, g10, g11, g12, g13, g14, g15, g16, g17, g18, g19, g20, g21, g22, g23, g24, g25, g26, g27⟩ := hM
  show PW X 0 [(0, .ref m), (1, .int s), (2, .int l), (3, .int i), (4, .int v)] [] sh I L R 0 0
  refine pw_iload_n h 1 d_X8_item_0 rfl ?_
  refine pw_callS (As := [.int _]) h d_X8_item_1 mf_X8_isSheet st_yX8_isSheet ml_RX8_140 ⟨by decide, by decide, by decide⟩ rfl rfl (Nat.le_of_ble_eq_true rfl) c_X8_isSheet ?_
  refine PKk.ret ?_
  refine pw_if_eq 14 h d_X8_item_4 (by decide) (fun c_4 => ?_) (fun c_4 => ?_)
  · skip
    rw [bI_1] at c_4
    refine pw_iconst (x := (-1)) h d_X8_item_14 (by decide) ?_
    refine pw_iret h hr d_X8_item_15 rfl (by decide) (by decide) ?_
    first | (refine pIf_f ?_ pRet_self; simp only [isBn, c_4, Bool.and_true, Bool.true_and, Bool.and_false, Bool.false_and]; done) | (refine pIf_f ?_ pRet_self; simp only [isBn, c_4, c_11, Bool.and_true, Bool.true_and, Bool.and_false, Bool.false_and]; done)
  · skip
    rw [bI_1, Bool.not_eq_false] at c_4
    refine pw_iload_n h 2 d_X8_item_7 rfl ?_
    refine pw_callS (As := [.int _]) h d_X8_item_8 mf_X8_isLane st_yX8_isLane ml_RX8_143 ⟨by decide, by decide, by decide⟩ rfl rfl (Nat.le_of_ble_eq_true rfl) c_X8_isLane ?_
    refine PKk.ret ?_
    refine pw_if_ne 16 h d_X8_item_11 (by decide) (fun c_11 => ?_) (fun c_11 => ?_)
    · skip
      rw [bI_1, Bool.not_eq_false] at c_11
      have hx := isW_ix (N := 4) c_4 rfl (by decide)
      refine pw_aload_n h 0 d_X8_item_16 rfl ?_
      refine pw_iload_n h 1 d_X8_item_17 rfl ?_
      refine pw_iload_n h 2 d_X8_item_18 rfl ?_
      refine pw_iload_n h 3 d_X8_item_19 rfl ?_
      refine pw_iconst (x := 1) h d_X8_item_20 (by decide) ?_
      refine pw_callV (As := [.int _, .int _, .int _, .int _]) h d_X8_item_21 mf_X8_finds mi_X8_finds ml_RX8_148 ⟨by decide, by decide, by decide⟩ (by assumption) rfl rfl (Nat.le_of_ble_eq_true rfl) trivial (c_X8_finds hM0 hx l i 1) ?_
      refine PKk.ret ?_
      refine pw_nmI (fun v5_24 e5_24 => ?_)
      refine pw_istore (lv' := [(5, .int v5_24), (0, .ref m), (1, .int s), (2, .int l), (3, .int i), (4, .int v)]) h d_X8_item_24 _ hml (by decide) rfl ?_
      refine pw_iload h 0 d_X8_item_26 rfl ?_
      refine pw_if_ge 34 h d_X8_item_28 (by decide) (fun c_28 => ?_) (fun c_28 => ?_)
      · skip
        rw [e5_24] at c_28
        have hf := faultM_ok (nlt_of_ge c_28)
        have hi0 : px_ix (13 * s + i) 52 (13 * s.toNatClampNeg + i.toNatClampNeg) := by have := hasM_ix (k := 0) hf.2.2 (hsz _ (px_ix_lt hx)) hx (by decide); rwa [show 13 * s + i + nI 0 = 13 * s + i from Int32.add_zero _] at this
        refine pw_aload_n h 1 d_X8_item_34 rfl ?_
        refine pw_getR (j := (m + 26)) 8 h d_X8_item_35 fd_RX8_97 (by assumption) rfl (by assumption) ?_
        refine pw_bipush (x := 13) h d_X8_item_38 (by decide) ?_
        refine pw_iload_n h 2 d_X8_item_40 rfl ?_
        refine pw_imul h d_X8_item_41 ?_
        refine pw_iload_n h 4 d_X8_item_42 rfl ?_
        refine pw_iadd h d_X8_item_43 ?_
        refine pw_iload_n h 3 d_X8_item_44 rfl ?_
        refine pw_if_ne 54 h d_X8_item_45 (by decide) (fun c_45 => ?_) (fun c_45 => ?_)
        · skip
          refine pw_iload_n h 3 d_X8_item_54 rfl ?_
          refine pw_iconst (x := 1) h d_X8_item_55 (by decide) ?_
          refine pw_icmp_ne 65 h d_X8_item_56 (by decide) (fun c_56 => ?_) (fun c_56 => ?_)
          · skip
            refine pw_iload h 5 d_X8_item_65 rfl ?_
            refine pw_iast h d_X8_item_67 (by assumption) (by assumption) ?_
            refine pw_iconst (x := 1) h d_X8_item_68 (by decide) ?_
            refine pw_iret h hr d_X8_item_69 rfl (by decide) (by decide) ?_
            refine pIf_t (by simp only [isBn, c_4, c_11, Bool.and_true, Bool.true_and, Bool.and_false, Bool.false_and]) (pIf_f (decide_eq_false (nlt_of_ge c_28)) ⟨rfl, rfl, ?_, rfl, rfl⟩)
            first | rw [show nrw l v = v.toInt8.toInt32 from if_pos c_45] | rw [show nrw l v = v.toInt16.toInt32 from (if_neg c_45).trans (if_pos c_56)] | rw [show nrw l v = v from (if_neg c_45).trans (if_neg c_56)]
          · skip
            refine pw_iload h 5 d_X8_item_59 rfl ?_
            refine pw_i2s h d_X8_item_61 ?_
            refine pw_goto 67 h d_X8_item_62 (by decide) ?_
            refine pw_iast h d_X8_item_67 (by assumption) (by assumption) ?_
            refine pw_iconst (x := 1) h d_X8_item_68 (by decide) ?_
            refine pw_iret h hr d_X8_item_69 rfl (by decide) (by decide) ?_
            refine pIf_t (by simp only [isBn, c_4, c_11, Bool.and_true, Bool.true_and, Bool.and_false, Bool.false_and]) (pIf_f (decide_eq_false (nlt_of_ge c_28)) ⟨rfl, rfl, ?_, rfl, rfl⟩)
            first | rw [show nrw l v = v.toInt8.toInt32 from if_pos c_45] | rw [show nrw l v = v.toInt16.toInt32 from (if_neg c_45).trans (if_pos c_56)] | rw [show nrw l v = v from (if_neg c_45).trans (if_neg c_56)]
        · skip
          refine pw_iload h 5 d_X8_item_48 rfl ?_
          refine pw_i2b h d_X8_item_50 ?_
          refine pw_goto 67 h d_X8_item_51 (by decide) ?_
          refine pw_iast h d_X8_item_67 (by assumption) (by assumption) ?_
          refine pw_iconst (x := 1) h d_X8_item_68 (by decide) ?_
          refine pw_iret h hr d_X8_item_69 rfl (by decide) (by decide) ?_
          refine pIf_t (by simp only [isBn, c_4, c_11, Bool.and_true, Bool.true_and, Bool.and_false, Bool.false_and]) (pIf_f (decide_eq_false (nlt_of_ge c_28)) ⟨rfl, rfl, ?_, rfl, rfl⟩)
          first | rw [show nrw l v = v.toInt8.toInt32 from if_pos c_45] | rw [show nrw l v = v.toInt16.toInt32 from (if_neg c_45).trans (if_pos c_56)] | rw [show nrw l v = v from (if_neg c_45).trans (if_neg c_56)]
      · skip
        rw [e5_24] at c_28
        refine pw_iload h 0 d_X8_item_31 rfl ?_
        refine pw_iret h hr d_X8_item_33 rfl (by decide) (by decide) ?_
        rw [e5_24]
        exact pIf_t (by simp only [isBn, c_4, c_11, Bool.and_true, Bool.true_and, Bool.and_false, Bool.false_and]) (pIf_t (decide_eq_true (lt_of_nge c_28)) pRet_self)
    · skip
      rw [bI_1] at c_11
      refine pw_iconst (x := (-1)) h d_X8_item_14 (by decide) ?_
      refine pw_iret h hr d_X8_item_15 rfl (by decide) (by decide) ?_
      first | (refine pIf_f ?_ pRet_self; simp only [isBn, c_4, Bool.and_true, Bool.true_and, Bool.and_false, Bool.false_and]; done) | (refine pIf_f ?_ pRet_self; simp only [isBn, c_4, c_11, Bool.and_true, Bool.true_and, Bool.and_false, Bool.false_and]; done)
