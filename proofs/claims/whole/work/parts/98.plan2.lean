set_option maxHeartbeats 4000000 in
set_option maxRecDepth 100000 in
theorem c_X3_prepareState {sh : Sh} {I : IM} {L : LM} {R : RM} (hP : PlanF sh R 61) (hl1 : R 61 2 = some 1) (hL : LineF sh R 1) (hQ : RestF sh R 45) {A : LA} (hm : CLm I A) (a : okA A) (h4 : aN A ≤ 4) (h2n : 2 ≤ aN A) (hps : PSet I (aN A)) (hpm : PMem I L (aQ A) (aN A) (ordK (aN A))) {st : Nat} (hst : st < 4) (hrw : sh[8 + st]? = some (.inr (.int, 13))) {sv : Int32} (es : sv = nI st) : PMet M_X3_prepareState [.ref 61, .ref 45, .ref (8 + st), .int sv] sh I L R (psP sh I L R (aQ A) (hgt A st) (wgt A) (stf A) (aN A) st) := by
  refine PMet.of mf_X3_prepareState (Nat.le_of_ble_eq_true rfl) ?_
  intro X h hr hml
  have hml : (xc X).maxLocals = 5 := hml
  have h : PXok X RX3 cX3_prepareState 5 0 0 := h
  have hr : PXr X none "prepareState" _ 0 0 := hr
  have hP0 := hP
  obtain ⟨p0, p1, p2, p3, p4, p5, p6, p7, p8, p9, r1, r7, r8, r9, r10, r11, r12, r13, r14⟩ := id hP
  obtain ⟨f0, f1, f2, f3, f4, f5, g1, g2, g3, g4, g5⟩ := id hL
  have hQ0 := hQ
  obtain ⟨q0, q1, hB45, q13, q14, q15, u2r, u3r, u4r⟩ := id hQ
  have k46 := hB45.1
  have hn := hm.1
  have h6 := a.1
  have ho1 : ordK (aN A) ≤ 11 := (ord_ok (aN A) h4).1
  show PW X 0 [(0, .ref 61), (1, .ref 45), (2, .ref (8 + st)), (3, .int sv)] [] sh I L R 0 0
  refine pw_aload_n h 1 d_X3_prepareState_0 rfl ?_
  refine pw_aload_n h 0 d_X3_prepareState_1 rfl ?_
  refine pw_getR (j := 1) 3 h d_X3_prepareState_2 fd_RX3_19 (by assumption) rfl (by assumption) ?_
  refine pw_getI 2 h d_X3_prepareState_5 fd_RX3_72 (by assumption) rfl ?_
  refine pw_aload_n h 0 d_X3_prepareState_8 rfl ?_
  refine pw_getR (j := 1) 3 h d_X3_prepareState_9 fd_RX3_19 (by assumption) rfl (by assumption) ?_
  refine pw_getR (j := 6) 2 h d_X3_prepareState_12 fd_RX3_96 (by assumption) rfl (by assumption) ?_
  refine pw_callV (As := [.int _, .ref 6]) h d_X3_prepareState_15 mf_X5_start mi_X5_start ml_RX3_75 ⟨by decide, by decide, by decide⟩ (by assumption) rfl rfl (Nat.le_of_ble_eq_true rfl) trivial (c_X5_start hQ0 (w := 6) f5 _) ?_
  intro ret1 sh1 I1 L1 R1 hp1
  obtain ⟨e0, e1, eI, eL, eR⟩ := hp1
  subst e0
  have e1 := e1.symm
  have eR := eR.symm
  subst e1
  subst eR
  refine ⟨rfl, ?_⟩
  have hR1 : RestI I1 L1 45 0 (aQ A) (hgt A st) (wgt A) (stf A) := by rw [eI, eL]; exact st_rest hm a _ _
  have fK1 : ∀ b k, (b < 45 ∨ 60 < b) → I1 b k = I b k := fun b k c => by rw [eI, u2_n1 (by omega), u2_n1 (by omega)]
  have fL1 : frKL L L1 := by rw [eL]; exact st_frL
  clear eI eL
  refine pw_iconst (x := 0) h d_X3_prepareState_18 (by decide) ?_
  refine pw_nmI (fun v4_19 e4_19 => ?_)
  refine pw_istore (lv' := [(4, .int v4_19), (0, .ref 61), (1, .ref 45), (2, .ref (8 + st)), (3, .int sv)]) h d_X3_prepareState_19 _ hml (by decide) rfl ?_
  have cut_21 : ∀ (N i : Nat) (y : Int32) (I2 : IM), aN A < i + N → i ≤ aN A → y = nI i → (∀ b k, (b < 45 ∨ 60 < b) → I2 b k = I b k) → RestI I2 L1 45 i (aQ A) (hgt A st) (wgt A) (stf A) → PW X 21 [(0, .ref 61), (1, .ref 45), (2, .ref (8 + st)), (3, .int sv), (4, .int y)] [] sh I2 L1 R 0 0 := by
    intro N
    induction N with
    | zero => intros; omega
    | succ N ih =>
      intro i y I2 hN hi ei fK2 hR2
      have hm2 : CLm I2 A := CLm_fr hm (fun b k h1 h2 => fK2 b k (by omega))
      refine pw_iload h 4 d_X3_prepareState_21 rfl ?_
      refine pw_aload_n h 0 d_X3_prepareState_23 rfl ?_
      refine pw_getR (j := 1) 3 h d_X3_prepareState_24 fd_RX3_19 (by assumption) rfl (by assumption) ?_
      refine pw_getI 2 h d_X3_prepareState_27 fd_RX3_61 (by assumption) rfl ?_
      refine pw_icmp_ge 76 h d_X3_prepareState_30 (by decide) (fun c_30 => ?_) (fun c_30 => ?_)
      · skip
        have hge := k_ge ei hm2.1 (by omega) (by omega) c_30
        have e : i = aN A := by omega
        rw [e] at hR2
        refine pw_iconst (x := 0) h d_X3_prepareState_76 (by decide) ?_
        refine pw_nmI (fun v4_77 e4_77 => ?_)
        refine pw_istore (lv' := [(4, .int v4_77), (0, .ref 61), (1, .ref 45), (2, .ref (8 + st)), (3, .int sv)]) h d_X3_prepareState_77 _ hml (by decide) rfl ?_
        have cut_79 : ∀ (N j : Nat) (z4 : Int32) (I4 : IM) (L4 : LM), ordK (aN A) < j + N → j ≤ ordK (aN A) → z4 = nI j → frQ I I4 → frQL 66 st L L4 → RestI I4 L4 45 (aN A) (aQ A) (hgt A st) (wgt A) (stf A) → PMem I4 L4 (aQ A) (aN A) (ordK (aN A)) → PBs L4 (aQ A) (hgt A st) (wgt A) (stf A) (aN A) st j → PW X 79 [(0, .ref 61), (1, .ref 45), (2, .ref (8 + st)), (3, .int sv), (4, .int z4)] [] sh I4 L4 R 0 0 := by
          intro N
          induction N with
          | zero => intros; omega
          | succ N ihj =>
            intro j z4 I4 L4 hNj hjK ej fQ4 fQL4 hR4 hM4 hB4
            have hm4 : CLm I4 A := CLm_Q hm fQ4
            have hs4 := PSet_fr hps fQ4
            refine pw_iload h 4 d_X3_prepareState_79 rfl ?_
            refine pw_aload_n h 0 d_X3_prepareState_81 rfl ?_
            refine pw_getI 3 h d_X3_prepareState_82 fd_RX3_33 (by assumption) rfl ?_
            refine pw_icmp_ge 124 h d_X3_prepareState_85 (by decide) (fun c_85 => ?_) (fun c_85 => ?_)
            · skip
              have hge := k_ge ej hs4.1 (by omega) (by omega) c_85
              have e9 : j = ordK (aN A) := by omega
              rw [e9] at hB4
              refine pw_vret h hr d_X3_prepareState_124 (by decide) (by decide) ?_
              exact ⟨rfl, rfl, rfl, fQ4, fQL4, hM4, hB4⟩
            · skip
              have hj := k_lt ej hs4.1 (by omega) (by omega) c_85
              have hxj := k_ix ej (show j < 11 by omega) (by decide)
              refine pw_aload_n h 1 d_X3_prepareState_88 rfl ?_
              refine pw_aload_n h 0 d_X3_prepareState_89 rfl ?_
              refine pw_getR (j := 63) 3 h d_X3_prepareState_90 fd_RX3_36 (by assumption) rfl (by assumption) ?_
              refine pw_iload h 4 d_X3_prepareState_93 rfl ?_
              refine pw_iald h d_X3_prepareState_95 (by assumption) (by assumption) ?_
              refine pw_eqI (y := nI (ordN (aN A) j)) (hs4.2 j hj) ?_
              refine pw_callV (As := [.int _]) h d_X3_prepareState_96 mf_X5_lay mi_X5_lay ml_RX3_88 ⟨by decide, by decide, by decide⟩ (by assumption) rfl rfl (Nat.le_of_ble_eq_true rfl) trivial (c_X5_lay hQ0 (n := aN A) hR4.1 (by omega) (fun k hk => k_ix (hR4.2.1 k hk) (a.2.1.1 k hk) (by decide)) _) ?_
              intro ret5 sh5 I5 L5 R5 hp5
              obtain ⟨e0, e1, eI, eL, eR⟩ := hp5
              subst e0
              have e1 := e1.symm
              have eR := eR.symm
              subst e1
              subst eR
              refine ⟨rfl, ?_⟩
              have hS5 := lay_S2 (c := nI (ordN (aN A) j)) a.2.1 (by omega) hR4
              have hfr5 : ∀ b k, (b < 45 ∨ 60 < b) → I5 b k = I4 b k := by rw [eI]; exact lay_frq
              have hfl5 : frKL L4 L5 := by rw [eL]; exact lay_frql
              rw [← eI] at eL hS5
              rw [← eL] at hS5
              clear eI eL
              refine pw_aload_n h 0 d_X3_prepareState_99 rfl ?_
              refine pw_aload_n h 1 d_X3_prepareState_100 rfl ?_
              refine pw_iload h 4 d_X3_prepareState_101 rfl ?_
              refine pw_aload_n h 0 d_X3_prepareState_103 rfl ?_
              refine pw_getR (j := 66) 3 h d_X3_prepareState_104 fd_RX3_46 (by assumption) rfl (by assumption) ?_
              refine pw_iload h 4 d_X3_prepareState_107 rfl ?_
              refine pw_iconst (x := 4) h d_X3_prepareState_109 (by decide) ?_
              refine pw_imul h d_X3_prepareState_110 ?_
              refine pw_iload_n h 3 d_X3_prepareState_111 rfl ?_
              refine pw_iadd h d_X3_prepareState_112 ?_
              refine pw_iconst (x := 4) h d_X3_prepareState_113 (by decide) ?_
              refine pw_imul h d_X3_prepareState_114 ?_
              refine pw_callV (As := [.ref 45, .int _, .ref 66, .int _]) h d_X3_prepareState_115 mf_X3_keepMargins mi_X3_keepMargins ml_RX3_92 ⟨by decide, by decide, by decide⟩ (by assumption) rfl rfl (Nat.le_of_ble_eq_true rfl) trivial (c_X3_keepMargins hP0 hl1 hL hQ0 (n := aN A) ((hfr5 1 0 (by omega)).trans hm4.1) h4 a.2.1 hS5 (sN_2 h4 hj) (j := j) (K := 66) (fr := (j * 4 + st) * 4) (k_ix ej (by omega) (by decide)) (Or.inl rfl) p5 (ix_4 ej es) (by omega)) ?_
              intro ret6 sh6 I6 L6 R6 hp6
              obtain ⟨e0, e1, eR, hk6⟩ := hp6
              subst e0
              have e1 := e1.symm
              have eR := eR.symm
              subst e1
              subst eR
              refine ⟨rfl, ?_⟩
              have hD6 := lay_D hS5 (sN_2 h4 hj)
              have hM5 := PMem_lay hM4 hfr5 hfl5
              have hM6 := (PMem_s hM5 hk6 hD6 (Or.inl rfl)).1
              have hB6 := PBs_s hst h4 (PBs_lay hB4 hfl5) hk6
              have fQ6 : frQ I I6 := frQ_t fQ4 (frQ_t (frQ_K hfr5) (kmS_frQ hk6))
              have fQL6 : frQL 66 st L L6 := frQL_t fQL4 (frQL_t (frQL_K hfl5) (kmS_frQL hst h4 hk6))
              have hR6 := (km_rest (Or.inl rfl) hk6 hS5).1
              obtain ⟨v4_118, e4_118⟩ : ∃ z : Int32, z = z4 + (1) := ⟨_, rfl⟩
              refine pw_iinc (lv' := [(4, .int v4_118), (0, .ref 61), (1, .ref 45), (2, .ref (8 + st)), (3, .int sv)]) v4_118 h d_X3_prepareState_118 4 rfl e4_118.symm _ hml (by decide) rfl ?_
              refine pw_goto 79 h d_X3_prepareState_121 (by decide) ?_
              refine PW.perm [1, 2, 3, 4, 0] rfl ?_
              exact ihj (j + 1) v4_118 _ _ (by omega) (by omega) (k_up e4_118 ej) fQ6 fQL6 hR6 hM6 hB6
        refine PW.perm [1, 2, 3, 4, 0] rfl ?_
        exact cut_79 (ordK (aN A) + 1) 0 v4_77 _ _ (by omega) (by omega) e4_77 (frQ_K fK2) (frQL_K fL1) hR2 (PMem_lay hpm fK2 fL1) (fun j hj => absurd hj (Nat.not_lt_zero _))
      · skip
        have hlt := k_lt ei hm2.1 (by omega) (by omega) c_30
        have hx6 := k_ix ei (show i < 6 by omega) (by decide)
        refine pw_aload_n h 1 d_X3_prepareState_33 rfl ?_
        refine pw_aload_n h 0 d_X3_prepareState_34 rfl ?_
        refine pw_getR (j := 1) 3 h d_X3_prepareState_35 fd_RX3_19 (by assumption) rfl (by assumption) ?_
        refine pw_getR (j := 2) 2 h d_X3_prepareState_38 fd_RX3_81 (by assumption) rfl (by assumption) ?_
        refine pw_iload h 4 d_X3_prepareState_41 rfl ?_
        refine pw_iald h d_X3_prepareState_43 (by assumption) (by assumption) ?_
        refine pw_aload_n h 0 d_X3_prepareState_44 rfl ?_
        refine pw_getR (j := 1) 3 h d_X3_prepareState_45 fd_RX3_19 (by assumption) rfl (by assumption) ?_
        refine pw_getR (j := 3) 2 h d_X3_prepareState_48 fd_RX3_99 (by assumption) rfl (by assumption) ?_
        refine pw_iload h 4 d_X3_prepareState_51 rfl ?_
        refine pw_iald h d_X3_prepareState_53 (by assumption) (by assumption) ?_
        refine pw_aload_n h 2 d_X3_prepareState_54 rfl ?_
        refine pw_aload_n h 0 d_X3_prepareState_55 rfl ?_
        refine pw_getR (j := 1) 3 h d_X3_prepareState_56 fd_RX3_19 (by assumption) rfl (by assumption) ?_
        refine pw_getR (j := 2) 2 h d_X3_prepareState_59 fd_RX3_81 (by assumption) rfl (by assumption) ?_
        refine pw_iload h 4 d_X3_prepareState_62 rfl ?_
        refine pw_iald h d_X3_prepareState_64 (by assumption) (by assumption) ?_
        refine pw_iald h d_X3_prepareState_65 (by assumption) (cl_q hm2 a i hlt) ?_
        refine pw_iadd h d_X3_prepareState_66 ?_
        refine pw_callV (As := [.int _, .int _]) h d_X3_prepareState_67 mf_X5_put mi_X5_put ml_RX3_84 ⟨by decide, by decide, by decide⟩ (by assumption) rfl rfl (Nat.le_of_ble_eq_true rfl) trivial (c_X5_put hQ0 (n := i) hR2.1 (by omega) _ _) ?_
        intro ret3 sh3 I3 L3 R3 hp3
        obtain ⟨e0, e1, eI, eL, eR⟩ := hp3
        subst e0
        have e1 := e1.symm
        have eR := eR.symm
        subst e1
        subst eR
        refine ⟨rfl, ?_⟩
        have eL3 := eL.symm
        subst eL3
        rw [if_pos (by omega)] at eI
        have hR3 : RestI I3 L1 45 (i + 1) (aQ A) (hgt A st) (wgt A) (stf A) := by rw [eI]; exact rs_put hR2 (hm2.2.1 i hlt) (cl_h hm2 a hst hlt)
        have fK3 : ∀ b k, (b < 45 ∨ 60 < b) → I3 b k = I b k := fun b k c => by rw [eI, u2_n1 (by omega), u2_n1 (by omega), u2_n1 (by omega)]; exact fK2 b k c
        clear eI eL
        obtain ⟨v4_70, e4_70⟩ : ∃ z : Int32, z = y + (1) := ⟨_, rfl⟩
        refine pw_iinc (lv' := [(4, .int v4_70), (0, .ref 61), (1, .ref 45), (2, .ref (8 + st)), (3, .int sv)]) v4_70 h d_X3_prepareState_70 4 rfl e4_70.symm _ hml (by decide) rfl ?_
        refine pw_goto 21 h d_X3_prepareState_73 (by decide) ?_
        refine PW.perm [1, 2, 3, 4, 0] rfl ?_
        exact ih (i + 1) v4_70 _ (by omega) (by omega) (k_up e4_70 ei) fK3 hR3
  refine PW.perm [1, 2, 3, 4, 0] rfl ?_
  exact cut_21 (aN A + 1) 0 v4_19 _ (by omega) (by omega) e4_19 fK1 hR1
