set_option maxHeartbeats 4000000 in
set_option maxRecDepth 100000 in
theorem c_X7_whirl {sh : Sh} {I : IM} {L : LM} {R : RM} (hCl : ClsF sh R) {A : LA} (hm : CLm I A) (a : okA A) (hr0 : CRest I L A) : PMet M_X7_whirl [.ref 0] sh I L R (obs sh I L R A (fun ret => ifA (decide (2 ≤ aN A)) (ret = some (.int (whA (I 6) (fun p => depQ (atzA A zerH (wCut A 0 13) p))))) (ret = some (.int (-2))))) := by
  refine PMet.of mf_X7_whirl (Nat.le_of_ble_eq_true rfl) ?_
  intro X h hr hml
  have hml : (xc X).maxLocals = 8 := hml
  have h : PXok X RX7 cX7_whirl 4 0 0 := h
  have hr : PXr X (some .int) "whirl" _ 0 0 := hr
  have hCl := hCl
  obtain ⟨hC, hB21, hB33, hQ, hPl⟩ := id hCl
  have hC0 := hC
  obtain ⟨k0, r0, r1, r2, r4, r5, r6, r7, r8, r13, r15, r16, hL, k7, r7s, k8s, k12, k20, r20s, hSs, k71, k72⟩ := hC
  have hL0 := hL
  obtain ⟨f0, f1, f2, f3, f4, f5, g1, g2, g3, g4, g5⟩ := hL
  have hQ0 := hQ
  obtain ⟨q0, q1, hB45, q13, q14, q15, p2, p3, p4⟩ := id hQ
  have hn := hm.1
  have h6 := a.1
  have k46 := hB45.1
  have k21 := hB21.1
  have k33 := hB33.1
  obtain ⟨bf0, bf1, bf2, bf3, bf4, bf5, bf6, bf7, bf8, bf9, bf10, bf11, bg1, bg2, bg3, -⟩ := id hB21
  show PW X 0 [(0, .ref 0)] [] sh I L R 0 0
  refine pw_aload_n h 0 d_X7_whirl_0 rfl ?_
  refine pw_getR (j := 1) 7 h d_X7_whirl_1 fd_RX7_12 (by assumption) rfl (by assumption) ?_
  refine pw_getI 2 h d_X7_whirl_4 fd_RX7_105 (by assumption) rfl ?_
  refine pw_iconst (x := 2) h d_X7_whirl_7 (by decide) ?_
  refine pw_icmp_ge 14 h d_X7_whirl_8 (by decide) (fun c_8 => ?_) (fun c_8 => ?_)
  · skip
    have h2 : 2 ≤ aN A := k_ge hm.1 (n := 2) rfl (by omega) (by omega) c_8
    refine pw_aload_n h 0 d_X7_whirl_14 rfl ?_
    refine pw_getR (j := 21) 7 h d_X7_whirl_15 fd_RX7_45 (by assumption) rfl (by assumption) ?_
    refine pw_aload_n h 0 d_X7_whirl_18 rfl ?_
    refine pw_getR (j := 1) 7 h d_X7_whirl_19 fd_RX7_12 (by assumption) rfl (by assumption) ?_
    refine pw_getI 2 h d_X7_whirl_22 fd_RX7_129 (by assumption) rfl ?_
    refine pw_callV (As := [.int _]) h d_X7_whirl_25 mf_X0_start mi_X0_start ml_RX7_221 ⟨by decide, by decide, by decide⟩ (by assumption) rfl rfl (Nat.le_of_ble_eq_true rfl) trivial (c_X0_start hB21 _) ?_
    intro ret1 sh1 I1 L1 R1 hp1
    obtain ⟨e0, e1, eI, eL, eR⟩ := hp1
    subst e0
    have e1 := e1.symm
    have eR := eR.symm
    subst e1
    subst eR
    refine ⟨rfl, ?_⟩
    have hb1 : BmI I1 21 allS (aQ A) zerH 0 := bm_0 (by rw [eI, u2_s])
    have fI1 : frBm 21 I I1 := fun a k c1 c2 c3 => by rw [eI]; unfold u2; rw [if_neg (by omega)]
    have hL1 : L1 = u2 L 21 5 (I 1 6).toInt64 := eL
    clear eI eL
    refine pw_iconst (x := 0) h d_X7_whirl_28 (by decide) ?_
    refine pw_nmI (fun v1_29 e1_29 => ?_)
    refine pw_istore_n (lv' := [(1, .int v1_29), (0, .ref 0)]) h d_X7_whirl_29 rfl _ hml (by decide) rfl ?_
    have cut_30 : ∀ (N i : Nat) (y : Int32) (I2 : IM) (L2 : LM), aN A < i + N → i ≤ aN A → y = nI i → frBm 21 I I2 → L2 = u2 L 21 5 (I 1 6).toInt64 → BmI I2 21 allS (aQ A) zerH i → PW X 30 [(0, .ref 0), (1, .int y)] [] sh I2 L2 R 0 0 := by
      intro N
      induction N with
      | zero => intros; omega
      | succ N ih =>
        intro i y I2 L2 hN hi ei fI2 hL2 hb2
        have hm2 : CLm I2 A := CLm_Bm hm (by decide) fI2
        refine pw_iload_n h 1 d_X7_whirl_30 rfl ?_
        refine pw_aload_n h 0 d_X7_whirl_31 rfl ?_
        refine pw_getR (j := 1) 7 h d_X7_whirl_32 fd_RX7_12 (by assumption) rfl (by assumption) ?_
        refine pw_getI 2 h d_X7_whirl_35 fd_RX7_105 (by assumption) rfl ?_
        refine pw_icmp_ge 64 h d_X7_whirl_38 (by decide) (fun c_38 => ?_) (fun c_38 => ?_)
        · skip
          have hge := k_ge ei hm2.1 (by omega) (by omega) c_38
          have e : i = aN A := by omega
          rw [e] at hb2
          refine pw_aload_n h 0 d_X7_whirl_64 rfl ?_
          refine pw_getR (j := 21) 7 h d_X7_whirl_65 fd_RX7_45 (by assumption) rfl (by assumption) ?_
          refine pw_aload_n h 0 d_X7_whirl_68 rfl ?_
          refine pw_getR (j := 1) 7 h d_X7_whirl_69 fd_RX7_12 (by assumption) rfl (by assumption) ?_
          refine pw_getR (j := 6) 2 h d_X7_whirl_72 fd_RX7_126 (by assumption) rfl (by assumption) ?_
          refine pw_iconst (x := 0) h d_X7_whirl_75 (by decide) ?_
          refine pw_bipush (x := 13) h d_X7_whirl_76 (by decide) ?_
          refine pw_callV (As := [.ref 6, .int _, .int _]) h d_X7_whirl_78 mf_X0_carry mi_X0_carry ml_RX7_228 ⟨by decide, by decide, by decide⟩ (by assumption) rfl rfl (Nat.le_of_ble_eq_true rfl) trivial (c_X0_carry hB21 (w := 6) f5 _ _) ?_
          intro ret4 sh4 I4 L4 R4 hp4
          obtain ⟨e0, e1, eI, eL, eR⟩ := hp4
          subst e0
          have e1 := e1.symm
          have eR := eR.symm
          subst e1
          subst eR
          refine ⟨rfl, ?_⟩
          have hL4 := eL
          have hI4 := eI.symm
          subst hI4
          clear eI eL
          refine pw_aload_n h 0 d_X7_whirl_81 rfl ?_
          refine pw_getR (j := 21) 7 h d_X7_whirl_82 fd_RX7_45 (by assumption) rfl (by assumption) ?_
          refine pw_callV (As := []) h d_X7_whirl_85 mf_X0_solve mi_X0_solve ml_RX7_232 ⟨by decide, by decide, by decide⟩ (by assumption) rfl rfl (Nat.le_of_ble_eq_true rfl) trivial (c_X0_solve hB21 (n := aN A) (pl := lyN allS (aQ A) (aN A)) (by rw [hb2.1, all_c]) (by omega) (fun k hk => bm_ix hb2 a.2.1 (by rw [all_c]; exact hk))) ?_
          intro ret5 sh5 I5 L5 R5 hp5
          obtain ⟨e0, e1, eI, eL, eR⟩ := hp5
          subst e0
          have e1 := e1.symm
          have eR := eR.symm
          subst e1
          subst eR
          refine ⟨rfl, ?_⟩
          have hO : SolO I2 L5 21 (aN A - 2) (lyN allS (aQ A) (aN A)) (lyQ allS zerH (aN A)) (wCut A 0 13) (stf A) := by rw [eL, hL4]; exact bm_all a hb2 h2 (cl_carP (fr := 0) (to := 13) hm2 a (by decide) (by decide)) (by rw [hL2, u2_s]; exact cl_F hm)
          have fL5 : frLb 21 L L5 := fun c k hc => by rw [eL, solL_o (by omega) (by omega), hL4, hL2]; exact carL_fr c k (by omega)
          have hI5 := eI.symm
          subst hI5
          clear eI eL
          refine pw_lconst (x := 0) h d_X7_whirl_88 (by decide) ?_
          refine pw_nmL (fun v1_89 e1_89 => ?_)
          refine pw_lstore_n (lv' := [(1, .long v1_89), (0, .ref 0)]) h d_X7_whirl_89 rfl _ hml (by decide) rfl ?_
          refine pw_lconst (x := 0) h d_X7_whirl_90 (by decide) ?_
          refine pw_nmL (fun v3_91 e3_91 => ?_)
          refine pw_lstore_n (lv' := [(3, .long v3_91), (1, .long v1_89), (0, .ref 0)]) h d_X7_whirl_91 rfl _ hml (by decide) rfl ?_
          refine pw_iconst (x := 0) h d_X7_whirl_92 (by decide) ?_
          refine pw_nmI (fun v5_93 e5_93 => ?_)
          refine pw_istore (lv' := [(5, .int v5_93), (3, .long v3_91), (1, .long v1_89), (0, .ref 0)]) h d_X7_whirl_93 _ hml (by decide) rfl ?_
          have cut_95 : ∀ (N p : Nat) (s1 s2 : Int64) (yp : Int32), 13 < p + N → p ≤ 13 → yp = nI p → s1 = whO (I2 6) (fun p => depQ (atzA A zerH (wCut A 0 13) p)) p → s2 = whT (I2 6) (fun p => depQ (atzA A zerH (wCut A 0 13) p)) p → PW X 95 [(0, .ref 0), (1, .long s1), (3, .long s2), (5, .int yp)] [] sh I2 L5 R 0 0 := by
            intro N
            induction N with
            | zero => intros; omega
            | succ N ihp =>
              intro p s1 s2 yp hN13 hp13 ep es1 es2
              refine pw_iload h 3 d_X7_whirl_95 rfl ?_
              refine pw_bipush (x := 13) h d_X7_whirl_97 (by decide) ?_
              refine pw_icmp_ge 183 h d_X7_whirl_99 (by decide) (fun c_99 => ?_) (fun c_99 => ?_)
              · skip
                have hge := k_ge ep (n := 13) rfl (by omega) (by omega) c_99
                have e : p = 13 := by omega
                subst e
                refine pw_ldc2 h d_X7_whirl_183 ck_RX7_292 ?_
                refine pw_lload_n h 1 d_X7_whirl_186 rfl ?_
                refine pw_lmul h d_X7_whirl_187 ?_
                refine pw_lload_n h 2 d_X7_whirl_188 rfl ?_
                refine pw_callS (As := [.long _, .long _]) h d_X7_whirl_189 mf_X7_cut st_yX7_cut ml_RX7_282 ⟨by decide, by decide, by decide⟩ rfl rfl (Nat.le_of_ble_eq_true rfl) c_X7_cut ?_
                refine PKk.ret ?_
                refine pw_l2i h d_X7_whirl_192 ?_
                refine pw_iret h hr d_X7_whirl_193 rfl (by decide) (by decide) ?_
                refine ⟨rfl, rfl, frB_Bm (Or.inl rfl) fI2, frBL_Bm (Or.inl rfl) fL5, CRest_Bm hr0 (Or.inl rfl) fI2 fL5, ifA_t (decide_eq_true h2) ?_⟩
                have e6 : I2 6 = I 6 := by funext k; exact fI2 6 k (by decide) (by decide) (Or.inl (by decide))
                rw [es1, es2, e6]
                rfl
              · skip
                have hlt := k_lt ep (n := 13) rfl (by omega) (by omega) c_99
                have hxp := k_ix ep hlt (by decide)
                refine pw_aload_n h 0 d_X7_whirl_102 rfl ?_
                refine pw_getR (j := 1) 7 h d_X7_whirl_103 fd_RX7_12 (by assumption) rfl (by assumption) ?_
                refine pw_getR (j := 6) 2 h d_X7_whirl_106 fd_RX7_126 (by assumption) rfl (by assumption) ?_
                refine pw_iload h 3 d_X7_whirl_109 rfl ?_
                refine pw_iald h d_X7_whirl_111 (by assumption) (by assumption) ?_
                refine pw_if_le 177 h d_X7_whirl_112 (by decide) (fun c_112 => ?_) (fun c_112 => ?_)
                · skip
                  have hw : ¬ 0 < I2 6 p := nlt_of_ge c_112
                  obtain ⟨v5_177, e5_177⟩ : ∃ z : Int32, z = yp + (1) := ⟨_, rfl⟩
                  refine pw_iinc (lv' := [(5, .int v5_177), (0, .ref 0), (1, .long s1), (3, .long s2)]) v5_177 h d_X7_whirl_177 3 rfl e5_177.symm _ hml (by decide) rfl ?_
                  refine pw_goto 95 h d_X7_whirl_180 (by decide) ?_
                  refine PW.perm [1, 2, 3, 0] rfl ?_
                  first
                    | exact ihp (p + 1) s1 s2 v5_177 (by omega) (by omega) (k_up e5_177 ep) (by simp only [whO]; rw [if_pos hw, e1_156, es1, ed]) (by simp only [whT]; rw [if_pos hw, e3_176, es2, ed])
                    | exact ihp (p + 1) s1 s2 v5_177 (by omega) (by omega) (k_up e5_177 ep) (by simp only [whO]; rw [if_neg hw, es1]) (by simp only [whT]; rw [if_neg hw, es2])
                · skip
                  have hw : 0 < I2 6 p := lt_of_nge c_112
                  refine pw_ldc2 h d_X7_whirl_115 ck_RX7_290 ?_
                  refine pw_aload_n h 0 d_X7_whirl_118 rfl ?_
                  refine pw_getR (j := 21) 7 h d_X7_whirl_119 fd_RX7_45 (by assumption) rfl (by assumption) ?_
                  refine pw_iload h 3 d_X7_whirl_122 rfl ?_
                  refine pw_callV (As := [.int _]) h d_X7_whirl_124 mf_X0_height mi_X0_height ml_RX7_206 ⟨by decide, by decide, by decide⟩ (by assumption) rfl rfl (Nat.le_of_ble_eq_true rfl) trivial (c_X0_height hB21 (n := aN A) (by rw [hb2.1, all_c]) (by omega) _ hxp (bm_ix hb2 a.2.1 (k := 0) (by rw [all_c]; omega)) (bm_ix hb2 a.2.1 (k := 1) (by rw [all_c]; omega))) ?_
                  refine PKk.ret ?_
                  refine pw_lmul h d_X7_whirl_127 ?_
                  refine pw_aload_n h 0 d_X7_whirl_128 rfl ?_
                  refine pw_getR (j := 21) 7 h d_X7_whirl_129 fd_RX7_45 (by assumption) rfl (by assumption) ?_
                  refine pw_callV (As := []) h d_X7_whirl_132 mf_X0_heightBelow mi_X0_heightBelow ml_RX7_209 ⟨by decide, by decide, by decide⟩ (by assumption) rfl rfl (Nat.le_of_ble_eq_true rfl) trivial (c_X0_heightBelow hB21) ?_
                  refine PKk.ret ?_
                  refine pw_callS (As := [.long _, .long _]) h d_X7_whirl_135 mf_X7_cut st_yX7_cut ml_RX7_282 ⟨by decide, by decide, by decide⟩ rfl rfl (Nat.le_of_ble_eq_true rfl) c_X7_cut ?_
                  refine PKk.ret ?_
                  refine pw_nmL (fun v6_138 e6_138 => ?_)
                  refine pw_lstore (lv' := [(6, .long v6_138), (0, .ref 0), (1, .long s1), (3, .long s2), (5, .int yp)]) h d_X7_whirl_138 _ hml (by decide) rfl ?_
                  have ed : v6_138 = depQ (atzA A zerH (wCut A 0 13) p) := by rw [e6_138, ep]; have := dep_ok (all_ok a zer_in (by grind) (by grind) 0 13 h2) hO hlt; rw [show aN A - 2 + 2 = aN A by omega] at this; exact this
                  refine pw_lload_n h 2 d_X7_whirl_140 rfl ?_
                  refine pw_aload_n h 1 d_X7_whirl_141 rfl ?_
                  refine pw_getR (j := 1) 7 h d_X7_whirl_142 fd_RX7_12 (by assumption) rfl (by assumption) ?_
                  refine pw_getR (j := 6) 2 h d_X7_whirl_145 fd_RX7_126 (by assumption) rfl (by assumption) ?_
                  refine pw_iload h 4 d_X7_whirl_148 rfl ?_
                  refine pw_iald h d_X7_whirl_150 (by assumption) (by assumption) ?_
                  refine pw_i2l h d_X7_whirl_151 ?_
                  refine pw_lload h 0 d_X7_whirl_152 rfl ?_
                  refine pw_lmul h d_X7_whirl_154 ?_
                  refine pw_ladd h d_X7_whirl_155 ?_
                  refine pw_nmL (fun v1_156 e1_156 => ?_)
                  refine pw_lstore_n (lv' := [(1, .long v1_156), (6, .long v6_138), (0, .ref 0), (3, .long s2), (5, .int yp)]) h d_X7_whirl_156 rfl _ hml (by decide) rfl ?_
                  refine pw_lload_n h 3 d_X7_whirl_157 rfl ?_
                  refine pw_aload_n h 2 d_X7_whirl_158 rfl ?_
                  refine pw_getR (j := 1) 7 h d_X7_whirl_159 fd_RX7_12 (by assumption) rfl (by assumption) ?_
                  refine pw_getR (j := 6) 2 h d_X7_whirl_162 fd_RX7_126 (by assumption) rfl (by assumption) ?_
                  refine pw_iload h 4 d_X7_whirl_165 rfl ?_
                  refine pw_iald h d_X7_whirl_167 (by assumption) (by assumption) ?_
                  refine pw_i2l h d_X7_whirl_168 ?_
                  refine pw_lload h 1 d_X7_whirl_169 rfl ?_
                  refine pw_lmul h d_X7_whirl_171 ?_
                  refine pw_lload h 1 d_X7_whirl_172 rfl ?_
                  refine pw_lmul h d_X7_whirl_174 ?_
                  refine pw_ladd h d_X7_whirl_175 ?_
                  refine pw_nmL (fun v3_176 e3_176 => ?_)
                  refine pw_lstore_n (lv' := [(3, .long v3_176), (1, .long v1_156), (6, .long v6_138), (0, .ref 0), (5, .int yp)]) h d_X7_whirl_176 rfl _ hml (by decide) rfl ?_
                  obtain ⟨v5_177, e5_177⟩ : ∃ z : Int32, z = yp + (1) := ⟨_, rfl⟩
                  refine pw_iinc (lv' := [(5, .int v5_177), (3, .long v3_176), (1, .long v1_156), (6, .long v6_138), (0, .ref 0)]) v5_177 h d_X7_whirl_177 4 rfl e5_177.symm _ hml (by decide) rfl ?_
                  refine pw_goto 95 h d_X7_whirl_180 (by decide) ?_
                  refine PW.perm [4, 2, 1, 0] rfl ?_
                  first
                    | exact ihp (p + 1) v1_156 v3_176 v5_177 (by omega) (by omega) (k_up e5_177 ep) (by simp only [whO]; rw [if_pos hw, e1_156, es1, ed]) (by simp only [whT]; rw [if_pos hw, e3_176, es2, ed])
                    | exact ihp (p + 1) v1_156 v3_176 v5_177 (by omega) (by omega) (k_up e5_177 ep) (by simp only [whO]; rw [if_neg hw, es1]) (by simp only [whT]; rw [if_neg hw, es2])
          refine PW.perm [3, 2, 1, 0] rfl ?_
          exact cut_95 14 0 v1_89 v3_91 v5_93 (by omega) (by omega) e5_93 e1_89 e3_91
        · skip
          have hlt := k_lt ei hm2.1 (by omega) (by omega) c_38
          have hx6 := k_ix ei (show i < 6 by omega) (by decide)
          refine pw_aload_n h 0 d_X7_whirl_41 rfl ?_
          refine pw_getR (j := 21) 7 h d_X7_whirl_42 fd_RX7_45 (by assumption) rfl (by assumption) ?_
          refine pw_aload_n h 0 d_X7_whirl_45 rfl ?_
          refine pw_getR (j := 1) 7 h d_X7_whirl_46 fd_RX7_12 (by assumption) rfl (by assumption) ?_
          refine pw_getR (j := 2) 2 h d_X7_whirl_49 fd_RX7_166 (by assumption) rfl (by assumption) ?_
          refine pw_iload_n h 1 d_X7_whirl_52 rfl ?_
          refine pw_iald h d_X7_whirl_53 (by assumption) (by assumption) ?_
          refine pw_iconst (x := 0) h d_X7_whirl_54 (by decide) ?_
          refine pw_callV (As := [.int _, .int _]) h d_X7_whirl_55 mf_X0_add mi_X0_add ml_RX7_224 ⟨by decide, by decide, by decide⟩ (by assumption) rfl rfl (Nat.le_of_ble_eq_true rfl) trivial (c_X0_add hB21 (n := cntS allS i) hb2.1 (by rw [all_c]; omega) _ _) ?_
          intro ret3 sh3 I3 L3 R3 hp3
          obtain ⟨e0, e1, eI, eL, eR⟩ := hp3
          subst e0
          have e1 := e1.symm
          have eR := eR.symm
          subst e1
          subst eR
          refine ⟨rfl, ?_⟩
          have hb3 := bm_add hb2 (rfl : allS i = true) (hm2.2.1 i hlt) (v := 0) (rfl : ((0 : Int32).toInt : Rat) = zerH i)
          rw [if_pos (by rw [all_c]; omega)] at eI
          rw [← eI] at hb3
          have fI3 : frBm 21 I I3 := frBm_t fI2 (by rw [eI]; exact bm_fr)
          have hL3 : L3 = u2 L 21 5 (I 1 6).toInt64 := eL.trans hL2
          clear eI eL
          obtain ⟨v1_58, e1_58⟩ : ∃ z : Int32, z = y + (1) := ⟨_, rfl⟩
          refine pw_iinc (lv' := [(1, .int v1_58), (0, .ref 0)]) v1_58 h d_X7_whirl_58 1 rfl e1_58.symm _ hml (by decide) rfl ?_
          refine pw_goto 30 h d_X7_whirl_61 (by decide) ?_
          refine PW.perm [1, 0] rfl ?_
          exact ih (i + 1) v1_58 _ _ (by omega) (by omega) (k_up e1_58 ei) fI3 hL3 hb3
    refine PW.perm [1, 0] rfl ?_
    exact cut_30 (aN A + 1) 0 v1_29 _ _ (by omega) (by omega) e1_29 fI1 hL1 hb1
  · skip
    have h2 : ¬ 2 ≤ aN A := fun q => by have := k_lt hm.1 (n := 2) rfl (by omega) (by omega) c_8; omega
    refine pw_bipush (x := (-2)) h d_X7_whirl_11 (by decide) ?_
    refine pw_iret h hr d_X7_whirl_13 rfl (by decide) (by decide) ?_
    exact ⟨rfl, rfl, frB_0, frBL_0, hr0, ifA_f (decide_eq_false h2) rfl⟩

set_option maxHeartbeats 4000000 in
set_option maxRecDepth 100000 in
theorem c_X7_coupling {sh : Sh} {I : IM} {L : LM} {R : RM} (hCl : ClsF sh R) {A : LA} (hm : CLm I A) (a : okA A) (hr0 : CRest I L A) (v p u w : Int32) : PMet M_X7_coupling [.ref 0, .int v, .int p, .int u, .int w] sh I L R (obs sh I L R A (fun ret => ifA (isW v 0 3 && isW p 0 12 && isW u 0 1 && isW w 0 1) (ifA (decide (2 ≤ cntS (gsB A 0 p.toNatClampNeg) (aN A)) && decide (2 ≤ cntS (gsB A p.toNatClampNeg 13) (aN A))) (ret = some (.long (ansL (eoA A v.toNatClampNeg 0 p.toNatClampNeg p.toNatClampNeg u - eoA A v.toNatClampNeg p.toNatClampNeg 13 p.toNatClampNeg u) w))) (ret = refL (-2))) (ret = refL (-1)))) := by
  refine PMet.of mf_X7_coupling (Nat.le_of_ble_eq_true rfl) ?_
  intro X h hr hml
  have hml : (xc X).maxLocals = 5 := hml
  have h : PXok X RX7 cX7_coupling 5 0 0 := h
  have hr : PXr X (some .long) "coupling" _ 0 0 := hr
  have hCl := hCl
  obtain ⟨hC, hB21, hB33, hQ, hPl⟩ := id hCl
  have hC0 := hC
  obtain ⟨k0, r0, r1, r2, r4, r5, r6, r7, r8, r13, r15, r16, hL, k7, r7s, k8s, k12, k20, r20s, hSs, k71, k72⟩ := hC
  have hL0 := hL
  obtain ⟨f0, f1, f2, f3, f4, f5, g1, g2, g3, g4, g5⟩ := hL
  have hQ0 := hQ
  obtain ⟨q0, q1, hB45, q13, q14, q15, p2, p3, p4⟩ := id hQ
  have hn := hm.1
  have h6 := a.1
  have k46 := hB45.1
  have k21 := hB21.1
  have k33 := hB33.1
  show PW X 0 [(0, .ref 0), (1, .int v), (2, .int p), (3, .int u), (4, .int w)] [] sh I L R 0 0
  refine pw_iload_n h 1 d_X7_coupling_0 rfl ?_
  refine pw_callS (As := [.int _]) h d_X7_coupling_1 mf_X7_isState st_yX7_isState ml_RX7_132 ⟨by decide, by decide, by decide⟩ rfl rfl (Nat.le_of_ble_eq_true rfl) c_X7_isState ?_
  refine PKk.ret ?_
  refine pw_if_eq 29 h d_X7_coupling_4 (by decide) (fun c_4 => ?_) (fun c_4 => ?_)
  · skip
    rw [bI_1] at c_4
    refine pw_iconst (x := (-1)) h d_X7_coupling_29 (by decide) ?_
    refine pw_callS (As := [.int _]) h d_X7_coupling_30 mf_X7_refusal st_yX7_refusal ml_RX7_185 ⟨by decide, by decide, by decide⟩ rfl rfl (Nat.le_of_ble_eq_true rfl) c_X7_refusal ?_
    refine PKk.ret ?_
    refine pw_lret h hr d_X7_coupling_33 (by decide) (by decide) ?_
    refine ⟨rfl, rfl, frB_0, frBL_0, hr0, ifA_f ?_ rfl⟩
    first | (simp only [c_4, Bool.false_and]; done) | (simp only [c_4, c_11, Bool.false_and, Bool.and_false]; done) | (simp only [c_4, c_11, c_18, Bool.false_and, Bool.and_false]; done) | (simp only [c_4, c_11, c_18, c_26, Bool.and_false]; done)
  · skip
    rw [bI_1, Bool.not_eq_false] at c_4
    refine pw_iload_n h 2 d_X7_coupling_7 rfl ?_
    refine pw_callS (As := [.int _]) h d_X7_coupling_8 mf_X7_isPlace st_yX7_isPlace ml_RX7_93 ⟨by decide, by decide, by decide⟩ rfl rfl (Nat.le_of_ble_eq_true rfl) c_X7_isPlace ?_
    refine PKk.ret ?_
    refine pw_if_eq 29 h d_X7_coupling_11 (by decide) (fun c_11 => ?_) (fun c_11 => ?_)
    · skip
      rw [bI_1] at c_11
      refine pw_iconst (x := (-1)) h d_X7_coupling_29 (by decide) ?_
      refine pw_callS (As := [.int _]) h d_X7_coupling_30 mf_X7_refusal st_yX7_refusal ml_RX7_185 ⟨by decide, by decide, by decide⟩ rfl rfl (Nat.le_of_ble_eq_true rfl) c_X7_refusal ?_
      refine PKk.ret ?_
      refine pw_lret h hr d_X7_coupling_33 (by decide) (by decide) ?_
      refine ⟨rfl, rfl, frB_0, frBL_0, hr0, ifA_f ?_ rfl⟩
      first | (simp only [c_4, Bool.false_and]; done) | (simp only [c_4, c_11, Bool.false_and, Bool.and_false]; done) | (simp only [c_4, c_11, c_18, Bool.false_and, Bool.and_false]; done) | (simp only [c_4, c_11, c_18, c_26, Bool.and_false]; done)
    · skip
      rw [bI_1, Bool.not_eq_false] at c_11
      refine pw_iload_n h 3 d_X7_coupling_14 rfl ?_
      refine pw_callS (As := [.int _]) h d_X7_coupling_15 mf_X7_isPart st_yX7_isPart ml_RX7_182 ⟨by decide, by decide, by decide⟩ rfl rfl (Nat.le_of_ble_eq_true rfl) c_X7_isPart ?_
      refine PKk.ret ?_
      refine pw_if_eq 29 h d_X7_coupling_18 (by decide) (fun c_18 => ?_) (fun c_18 => ?_)
      · skip
        rw [bI_1] at c_18
        refine pw_iconst (x := (-1)) h d_X7_coupling_29 (by decide) ?_
        refine pw_callS (As := [.int _]) h d_X7_coupling_30 mf_X7_refusal st_yX7_refusal ml_RX7_185 ⟨by decide, by decide, by decide⟩ rfl rfl (Nat.le_of_ble_eq_true rfl) c_X7_refusal ?_
        refine PKk.ret ?_
        refine pw_lret h hr d_X7_coupling_33 (by decide) (by decide) ?_
        refine ⟨rfl, rfl, frB_0, frBL_0, hr0, ifA_f ?_ rfl⟩
        first | (simp only [c_4, Bool.false_and]; done) | (simp only [c_4, c_11, Bool.false_and, Bool.and_false]; done) | (simp only [c_4, c_11, c_18, Bool.false_and, Bool.and_false]; done) | (simp only [c_4, c_11, c_18, c_26, Bool.and_false]; done)
      · skip
        rw [bI_1, Bool.not_eq_false] at c_18
        refine pw_iload h 4 d_X7_coupling_21 rfl ?_
        refine pw_callS (As := [.int _]) h d_X7_coupling_23 mf_X7_isPart st_yX7_isPart ml_RX7_182 ⟨by decide, by decide, by decide⟩ rfl rfl (Nat.le_of_ble_eq_true rfl) c_X7_isPart ?_
        refine PKk.ret ?_
        refine pw_if_ne 34 h d_X7_coupling_26 (by decide) (fun c_26 => ?_) (fun c_26 => ?_)
        · skip
          rw [bI_1, Bool.not_eq_false] at c_26
          have hx0 := isW_ix (N := 4) c_4 rfl (by decide)
          have hst := px_ix_lt hx0
          have est : v = nI v.toNatClampNeg := px_ix_eq hx0
          have hpx := isW_ix (N := 13) c_11 rfl (by decide)
          have hp13 := px_ix_lt hpx
          have epx : p = nI p.toNatClampNeg := px_ix_eq hpx
          refine pw_aload_n h 0 d_X7_coupling_34 rfl ?_
          refine pw_aload_n h 0 d_X7_coupling_35 rfl ?_
          refine pw_getR (j := 21) 7 h d_X7_coupling_36 fd_RX7_45 (by assumption) rfl (by assumption) ?_
          refine pw_iload_n h 1 d_X7_coupling_39 rfl ?_
          refine pw_iconst (x := 0) h d_X7_coupling_40 (by decide) ?_
          refine pw_iload_n h 2 d_X7_coupling_41 rfl ?_
          refine pw_callV (As := [.ref 21, .int _, .int _, .int _]) h d_X7_coupling_42 mf_X7_goesThrough mi_X7_goesThrough ml_RX7_213 ⟨by decide, by decide, by decide⟩ (by assumption) rfl rfl (Nat.le_of_ble_eq_true rfl) trivial (c_X7_goesThrough hCl hm a (b := 21) (st := v.toNatClampNeg) (fr := 0) (to := p.toNatClampNeg) hB21 (by decide) hst est rfl epx (by decide) (by omega)) ?_
          intro ret1 sh1 I1 L1 R1 hp1
          obtain ⟨e1, eR, fI1, fL1, bb, hbb, hb1, hb2⟩ := hp1
          have e1 := e1.symm
          have eR := eR.symm
          subst e1
          subst eR
          subst hbb
          refine ⟨rfl, ?_⟩
          refine pw_if_eq 63 h d_X7_coupling_45 (by decide) (fun c_45 => ?_) (fun c_45 => ?_)
          · skip
            rw [bI_1] at c_45
            have hno : (decide (2 ≤ cntS (gsB A 0 p.toNatClampNeg) (aN A)) && decide (2 ≤ cntS (gsB A p.toNatClampNeg 13) (aN A))) = false := by rw [decide_eq_false (hb1 c_45), Bool.false_and]
            have g1 := frB_Bm (Or.inl rfl) fI1
            have g2 := frBL_Bm (Or.inl rfl) fL1
            have g3 := CRest_Bm hr0 (Or.inl rfl) fI1 fL1
            refine pw_bipush (x := (-2)) h d_X7_coupling_63 (by decide) ?_
            refine pw_callS (As := [.int _]) h d_X7_coupling_65 mf_X7_refusal st_yX7_refusal ml_RX7_185 ⟨by decide, by decide, by decide⟩ rfl rfl (Nat.le_of_ble_eq_true rfl) c_X7_refusal ?_
            refine PKk.ret ?_
            refine pw_lret h hr d_X7_coupling_68 (by decide) (by decide) ?_
            exact ⟨rfl, rfl, g1, g2, g3, ifA_t (by simp only [c_4, c_11, c_18, c_26, Bool.and_self]) (ifA_f hno rfl)⟩
          · skip
            rw [bI_1, Bool.not_eq_false] at c_45
            obtain ⟨h2, hc0, hO⟩ := hb2 c_45
            have hm1 := CLm_Bm hm (by decide) fI1
            refine pw_aload_n h 0 d_X7_coupling_48 rfl ?_
            refine pw_aload_n h 0 d_X7_coupling_49 rfl ?_
            refine pw_getR (j := 33) 7 h d_X7_coupling_50 fd_RX7_49 (by assumption) rfl (by assumption) ?_
            refine pw_iload_n h 1 d_X7_coupling_53 rfl ?_
            refine pw_iload_n h 2 d_X7_coupling_54 rfl ?_
            refine pw_bipush (x := 13) h d_X7_coupling_55 (by decide) ?_
            refine pw_callV (As := [.ref 33, .int _, .int _, .int _]) h d_X7_coupling_57 mf_X7_goesThrough mi_X7_goesThrough ml_RX7_213 ⟨by decide, by decide, by decide⟩ (by assumption) rfl rfl (Nat.le_of_ble_eq_true rfl) trivial (c_X7_goesThrough hCl hm1 a (b := 33) (st := v.toNatClampNeg) (fr := p.toNatClampNeg) (to := 13) hB33 (by decide) hst est epx rfl (by omega) (by decide)) ?_
            intro ret2 sh2 I2 L2 R2 hp2
            obtain ⟨e1, eR, fI2, fL2, b2, hbb2, hd1, hd2⟩ := hp2
            have e1 := e1.symm
            have eR := eR.symm
            subst e1
            subst eR
            subst hbb2
            refine ⟨rfl, ?_⟩
            refine pw_if_ne 69 h d_X7_coupling_60 (by decide) (fun c_60 => ?_) (fun c_60 => ?_)
            · skip
              rw [bI_1, Bool.not_eq_false] at c_60
              obtain ⟨k2, kc0, kO⟩ := hd2 c_60
              have hO2 := SolO_fr (I' := I2) (L' := L2) hO (fun a k h => fI2 a k (by omega) (by omega) (by omega)) (fun a k h1 h2 => fL2 a k (by omega))
              have hc2 : I2 21 0 = nI (cntS (gsB A 0 p.toNatClampNeg) (aN A)) := (fI2 21 0 (by decide) (by decide) (Or.inl (by decide))).trans hc0
              have hyes : (decide (2 ≤ cntS (gsB A 0 p.toNatClampNeg) (aN A)) && decide (2 ≤ cntS (gsB A p.toNatClampNeg 13) (aN A))) = true := by rw [decide_eq_true h2, decide_eq_true k2]; rfl
              have hle1 := cntS_le (s := gsB A 0 p.toNatClampNeg) (aN A)
              have hle2 := cntS_le (s := gsB A p.toNatClampNeg 13) (aN A)
              have o1 : ∀ k, k < 2 → px_ix (I2 (21 + 1) k) 13 (lyN (gsB A 0 p.toNatClampNeg) (aQ A) (aN A) k) := fun k hk => so_ix (okS_B (okA_C a hst 0 p.toNatClampNeg) h2).1 hO2 hk
              have o2 : ∀ k, k < 2 → px_ix (I2 (33 + 1) k) 13 (lyN (gsB A p.toNatClampNeg 13) (aQ A) (aN A) k) := fun k hk => so_ix (okS_B (okA_C a hst p.toNatClampNeg 13) k2).1 kO hk
              have g1 := frB_t (frB_Bm (Or.inl rfl) fI1) (frB_Bm (Or.inr rfl) fI2)
              have g2 := frBL_t (frBL_Bm (Or.inl rfl) fL1) (frBL_Bm (Or.inr rfl) fL2)
              have g3 := CRest_Bm (CRest_Bm hr0 (Or.inl rfl) fI1 fL1) (Or.inr rfl) fI2 fL2
              refine pw_iload_n h 3 d_X7_coupling_69 rfl ?_
              refine pw_if_ne 120 h d_X7_coupling_70 (by decide) (fun c_70 => ?_) (fun c_70 => ?_)
              · skip
                refine pw_aload_n h 0 d_X7_coupling_120 rfl ?_
                refine pw_getR (j := 71) 7 h d_X7_coupling_121 fd_RX7_85 (by assumption) rfl (by assumption) ?_
                refine pw_ldc2 h d_X7_coupling_124 ck_RX7_235 ?_
                refine pw_aload_n h 0 d_X7_coupling_127 rfl ?_
                refine pw_getR (j := 21) 7 h d_X7_coupling_128 fd_RX7_45 (by assumption) rfl (by assumption) ?_
                refine pw_iload_n h 2 d_X7_coupling_131 rfl ?_
                refine pw_callV (As := [.int _]) h d_X7_coupling_132 mf_X0_slope mi_X0_slope ml_RX7_237 ⟨by decide, by decide, by decide⟩ (by assumption) rfl rfl (Nat.le_of_ble_eq_true rfl) trivial (c_X0_slope hB21 (n := cntS (gsB A 0 p.toNatClampNeg) (aN A)) hc2 (by omega) _ hpx (o1 0 (by decide)) (o1 1 (by decide))) ?_
                refine PKk.ret ?_
                refine pw_lmul h d_X7_coupling_135 ?_
                refine pw_aload_n h 0 d_X7_coupling_136 rfl ?_
                refine pw_getR (j := 21) 7 h d_X7_coupling_137 fd_RX7_45 (by assumption) rfl (by assumption) ?_
                refine pw_callV (As := []) h d_X7_coupling_140 mf_X0_heightBelow mi_X0_heightBelow ml_RX7_209 ⟨by decide, by decide, by decide⟩ (by assumption) rfl rfl (Nat.le_of_ble_eq_true rfl) trivial (c_X0_heightBelow hB21) ?_
                refine PKk.ret ?_
                refine pw_callV (As := [.long _, .long _]) h d_X7_coupling_143 mf_X1_become mi_X1_become ml_RX7_200 ⟨by decide, by decide, by decide⟩ (by assumption) rfl rfl (Nat.le_of_ble_eq_true rfl) trivial (c_X1_become k71 _ _) ?_
                refine PKk.ret ?_
                refine pw_aload_n h 0 d_X7_coupling_146 rfl ?_
                refine pw_getR (j := 72) 7 h d_X7_coupling_147 fd_RX7_89 (by assumption) rfl (by assumption) ?_
                refine pw_ldc2 h d_X7_coupling_150 ck_RX7_235 ?_
                refine pw_aload_n h 0 d_X7_coupling_153 rfl ?_
                refine pw_getR (j := 33) 7 h d_X7_coupling_154 fd_RX7_49 (by assumption) rfl (by assumption) ?_
                refine pw_iload_n h 2 d_X7_coupling_157 rfl ?_
                refine pw_callV (As := [.int _]) h d_X7_coupling_158 mf_X0_slope mi_X0_slope ml_RX7_237 ⟨by decide, by decide, by decide⟩ (by assumption) rfl rfl (Nat.le_of_ble_eq_true rfl) trivial (c_X0_slope hB33 (n := cntS (gsB A p.toNatClampNeg 13) (aN A)) kc0 (by omega) _ hpx (o2 0 (by decide)) (o2 1 (by decide))) ?_
                refine PKk.ret ?_
                refine pw_lmul h d_X7_coupling_161 ?_
                refine pw_aload_n h 0 d_X7_coupling_162 rfl ?_
                refine pw_getR (j := 33) 7 h d_X7_coupling_163 fd_RX7_49 (by assumption) rfl (by assumption) ?_
                refine pw_callV (As := []) h d_X7_coupling_166 mf_X0_heightBelow mi_X0_heightBelow ml_RX7_209 ⟨by decide, by decide, by decide⟩ (by assumption) rfl rfl (Nat.le_of_ble_eq_true rfl) trivial (c_X0_heightBelow hB33) ?_
                refine PKk.ret ?_
                refine pw_callV (As := [.long _, .long _]) h d_X7_coupling_169 mf_X1_become mi_X1_become ml_RX7_200 ⟨by decide, by decide, by decide⟩ (by assumption) rfl rfl (Nat.le_of_ble_eq_true rfl) trivial (c_X1_become k72 _ _) ?_
                refine PKk.ret ?_
                refine pw_aload_n h 0 d_X7_coupling_172 rfl ?_
                refine pw_getR (j := 71) 7 h d_X7_coupling_173 fd_RX7_85 (by assumption) rfl (by assumption) ?_
                refine pw_aload_n h 0 d_X7_coupling_176 rfl ?_
                refine pw_getR (j := 72) 7 h d_X7_coupling_177 fd_RX7_89 (by assumption) rfl (by assumption) ?_
                refine pw_callV (As := [.ref 72]) h d_X7_coupling_180 mf_X1_takeAway mi_X1_takeAway ml_RX7_240 ⟨by decide, by decide, by decide⟩ (by assumption) rfl rfl (Nat.le_of_ble_eq_true rfl) trivial (c_X1_takeAway k71 k72) ?_
                refine PKk.ret ?_
                refine pw_aload_n h 0 d_X7_coupling_183 rfl ?_
                refine pw_getR (j := 71) 7 h d_X7_coupling_184 fd_RX7_85 (by assumption) rfl (by assumption) ?_
                refine pw_iload h 4 d_X7_coupling_187 rfl ?_
                refine pw_callV (As := [.int _]) h d_X7_coupling_189 mf_X1_part mi_X1_part ml_RX7_203 ⟨by decide, by decide, by decide⟩ (by assumption) rfl rfl (Nat.le_of_ble_eq_true rfl) trivial (c_X1_part k71 _) ?_
                refine PKk.ret ?_
                refine pw_lret h hr d_X7_coupling_192 (by decide) (by decide) ?_
                refine ⟨rfl, rfl, g1, frBL_t g2 cpl_fr, CRest_fr g3 (fun _ _ _ _ => rfl) (fun _ _ => rfl) (fun a k h1 h2 => cpl_frR a k (by omega) (by omega)), ifA_t (by simp only [c_4, c_11, c_18, c_26, Bool.and_self]) (ifA_t hyes ?_)⟩
                first | exact cpl_both a hst hp13 h2 k2 hO2 kO u w (by unfold eoL; rw [if_pos c_70, ← epx]) (by unfold eoL; rw [if_pos c_70, ← epx]; exact hei_be) hb_be | exact cpl_both a hst hp13 h2 k2 hO2 kO u w (by unfold eoL; rw [if_neg c_70, ← epx]) (by unfold eoL; rw [if_neg c_70, ← epx]; exact congrArg (fun z => 10 * z) sle_be) hb_be
              · skip
                refine pw_aload_n h 0 d_X7_coupling_73 rfl ?_
                refine pw_getR (j := 71) 7 h d_X7_coupling_74 fd_RX7_85 (by assumption) rfl (by assumption) ?_
                refine pw_aload_n h 0 d_X7_coupling_77 rfl ?_
                refine pw_getR (j := 21) 7 h d_X7_coupling_78 fd_RX7_45 (by assumption) rfl (by assumption) ?_
                refine pw_iload_n h 2 d_X7_coupling_81 rfl ?_
                refine pw_callV (As := [.int _]) h d_X7_coupling_82 mf_X0_height mi_X0_height ml_RX7_206 ⟨by decide, by decide, by decide⟩ (by assumption) rfl rfl (Nat.le_of_ble_eq_true rfl) trivial (c_X0_height hB21 (n := cntS (gsB A 0 p.toNatClampNeg) (aN A)) hc2 (by omega) _ hpx (o1 0 (by decide)) (o1 1 (by decide))) ?_
                refine PKk.ret ?_
                refine pw_aload_n h 0 d_X7_coupling_85 rfl ?_
                refine pw_getR (j := 21) 7 h d_X7_coupling_86 fd_RX7_45 (by assumption) rfl (by assumption) ?_
                refine pw_callV (As := []) h d_X7_coupling_89 mf_X0_heightBelow mi_X0_heightBelow ml_RX7_209 ⟨by decide, by decide, by decide⟩ (by assumption) rfl rfl (Nat.le_of_ble_eq_true rfl) trivial (c_X0_heightBelow hB21) ?_
                refine PKk.ret ?_
                refine pw_callV (As := [.long _, .long _]) h d_X7_coupling_92 mf_X1_become mi_X1_become ml_RX7_200 ⟨by decide, by decide, by decide⟩ (by assumption) rfl rfl (Nat.le_of_ble_eq_true rfl) trivial (c_X1_become k71 _ _) ?_
                refine PKk.ret ?_
                refine pw_aload_n h 0 d_X7_coupling_95 rfl ?_
                refine pw_getR (j := 72) 7 h d_X7_coupling_96 fd_RX7_89 (by assumption) rfl (by assumption) ?_
                refine pw_aload_n h 0 d_X7_coupling_99 rfl ?_
                refine pw_getR (j := 33) 7 h d_X7_coupling_100 fd_RX7_49 (by assumption) rfl (by assumption) ?_
                refine pw_iload_n h 2 d_X7_coupling_103 rfl ?_
                refine pw_callV (As := [.int _]) h d_X7_coupling_104 mf_X0_height mi_X0_height ml_RX7_206 ⟨by decide, by decide, by decide⟩ (by assumption) rfl rfl (Nat.le_of_ble_eq_true rfl) trivial (c_X0_height hB33 (n := cntS (gsB A p.toNatClampNeg 13) (aN A)) kc0 (by omega) _ hpx (o2 0 (by decide)) (o2 1 (by decide))) ?_
                refine PKk.ret ?_
                refine pw_aload_n h 0 d_X7_coupling_107 rfl ?_
                refine pw_getR (j := 33) 7 h d_X7_coupling_108 fd_RX7_49 (by assumption) rfl (by assumption) ?_
                refine pw_callV (As := []) h d_X7_coupling_111 mf_X0_heightBelow mi_X0_heightBelow ml_RX7_209 ⟨by decide, by decide, by decide⟩ (by assumption) rfl rfl (Nat.le_of_ble_eq_true rfl) trivial (c_X0_heightBelow hB33) ?_
                refine PKk.ret ?_
                refine pw_callV (As := [.long _, .long _]) h d_X7_coupling_114 mf_X1_become mi_X1_become ml_RX7_200 ⟨by decide, by decide, by decide⟩ (by assumption) rfl rfl (Nat.le_of_ble_eq_true rfl) trivial (c_X1_become k72 _ _) ?_
                refine PKk.ret ?_
                refine pw_goto 172 h d_X7_coupling_117 (by decide) ?_
                refine pw_aload_n h 0 d_X7_coupling_172 rfl ?_
                refine pw_getR (j := 71) 7 h d_X7_coupling_173 fd_RX7_85 (by assumption) rfl (by assumption) ?_
                refine pw_aload_n h 0 d_X7_coupling_176 rfl ?_
                refine pw_getR (j := 72) 7 h d_X7_coupling_177 fd_RX7_89 (by assumption) rfl (by assumption) ?_
                refine pw_callV (As := [.ref 72]) h d_X7_coupling_180 mf_X1_takeAway mi_X1_takeAway ml_RX7_240 ⟨by decide, by decide, by decide⟩ (by assumption) rfl rfl (Nat.le_of_ble_eq_true rfl) trivial (c_X1_takeAway k71 k72) ?_
                refine PKk.ret ?_
                refine pw_aload_n h 0 d_X7_coupling_183 rfl ?_
                refine pw_getR (j := 71) 7 h d_X7_coupling_184 fd_RX7_85 (by assumption) rfl (by assumption) ?_
                refine pw_iload h 4 d_X7_coupling_187 rfl ?_
                refine pw_callV (As := [.int _]) h d_X7_coupling_189 mf_X1_part mi_X1_part ml_RX7_203 ⟨by decide, by decide, by decide⟩ (by assumption) rfl rfl (Nat.le_of_ble_eq_true rfl) trivial (c_X1_part k71 _) ?_
                refine PKk.ret ?_
                refine pw_lret h hr d_X7_coupling_192 (by decide) (by decide) ?_
                refine ⟨rfl, rfl, g1, frBL_t g2 cpl_fr, CRest_fr g3 (fun _ _ _ _ => rfl) (fun _ _ => rfl) (fun a k h1 h2 => cpl_frR a k (by omega) (by omega)), ifA_t (by simp only [c_4, c_11, c_18, c_26, Bool.and_self]) (ifA_t hyes ?_)⟩
                first | exact cpl_both a hst hp13 h2 k2 hO2 kO u w (by unfold eoL; rw [if_pos c_70, ← epx]) (by unfold eoL; rw [if_pos c_70, ← epx]; exact hei_be) hb_be | exact cpl_both a hst hp13 h2 k2 hO2 kO u w (by unfold eoL; rw [if_neg c_70, ← epx]) (by unfold eoL; rw [if_neg c_70, ← epx]; exact congrArg (fun z => 10 * z) sle_be) hb_be
            · skip
              rw [bI_1] at c_60
              have hno : (decide (2 ≤ cntS (gsB A 0 p.toNatClampNeg) (aN A)) && decide (2 ≤ cntS (gsB A p.toNatClampNeg 13) (aN A))) = false := by rw [decide_eq_false (hd1 c_60), Bool.and_false]
              have g1 := frB_t (frB_Bm (Or.inl rfl) fI1) (frB_Bm (Or.inr rfl) fI2)
              have g2 := frBL_t (frBL_Bm (Or.inl rfl) fL1) (frBL_Bm (Or.inr rfl) fL2)
              have g3 := CRest_Bm (CRest_Bm hr0 (Or.inl rfl) fI1 fL1) (Or.inr rfl) fI2 fL2
              refine pw_bipush (x := (-2)) h d_X7_coupling_63 (by decide) ?_
              refine pw_callS (As := [.int _]) h d_X7_coupling_65 mf_X7_refusal st_yX7_refusal ml_RX7_185 ⟨by decide, by decide, by decide⟩ rfl rfl (Nat.le_of_ble_eq_true rfl) c_X7_refusal ?_
              refine PKk.ret ?_
              refine pw_lret h hr d_X7_coupling_68 (by decide) (by decide) ?_
              exact ⟨rfl, rfl, g1, g2, g3, ifA_t (by simp only [c_4, c_11, c_18, c_26, Bool.and_self]) (ifA_f hno rfl)⟩
        · skip
          rw [bI_1] at c_26
          refine pw_iconst (x := (-1)) h d_X7_coupling_29 (by decide) ?_
          refine pw_callS (As := [.int _]) h d_X7_coupling_30 mf_X7_refusal st_yX7_refusal ml_RX7_185 ⟨by decide, by decide, by decide⟩ rfl rfl (Nat.le_of_ble_eq_true rfl) c_X7_refusal ?_
          refine PKk.ret ?_
          refine pw_lret h hr d_X7_coupling_33 (by decide) (by decide) ?_
          refine ⟨rfl, rfl, frB_0, frBL_0, hr0, ifA_f ?_ rfl⟩
          first | (simp only [c_4, Bool.false_and]; done) | (simp only [c_4, c_11, Bool.false_and, Bool.and_false]; done) | (simp only [c_4, c_11, c_18, Bool.false_and, Bool.and_false]; done) | (simp only [c_4, c_11, c_18, c_26, Bool.and_false]; done)
