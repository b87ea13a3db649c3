set_option maxHeartbeats 4000000 in
set_option maxRecDepth 100000 in
theorem c_X7_through {sh : Sh} {I : IM} {L : LM} {R : RM} (hCl : ClsF sh R) {A : LA} (hm : CLm I A) (a : okA A) (hr0 : CRest I L A) (v b w : Int32) : PMet M_X7_through [.ref 0, .int v, .int b, .int w] sh I L R (obs sh I L R A (fun ret => ifA (isW v 0 3 && isBn (aN A) b && isW w 0 1) (ifA (decide (2 ≤ cntS (gsB A 0 13) (aN A))) (ret = some (.long (ansL (gldA A v.toNatClampNeg 0 13 b.toNatClampNeg) w))) (ret = refL (-2))) (ret = refL (-1)))) := by
  refine PMet.of mf_X7_through (Nat.le_of_ble_eq_true rfl) ?_
  intro X h hr hml
  have hml : (xc X).maxLocals = 4 := hml
  have h : PXok X RX7 cX7_through 5 0 0 := h
  have hr : PXr X (some .long) "through" _ 0 0 := hr
  have hCl := hCl
  obtain ⟨hC, hB21, hB33, hQ, hPl⟩ := id hCl
  have hC0 := hC
  obtain ⟨k0, r0, r1, r2, r4, r5, r6, r7, r8, r13, r15, r16, hL, k7, r7s, k8s, k12, k20, r20s, hSs, k71, k72⟩ := hC
  have hL0 := hL
  obtain ⟨f0, f1, f2, f3, f4, f5, g1, g2, g3, g4, g5⟩ := hL
  have hQ0 := hQ
  obtain ⟨q0, q1, hB45, q13, q14, q15, p2, p3, p4⟩ := id hQ
  have hn := hm.1
  have h6 := a.1
  have k46 := hB45.1
  have k21 := hB21.1
  have k33 := hB33.1
  obtain ⟨bf0, bf1, bf2, bf3, bf4, bf5, bf6, bf7, bf8, bf9, bf10, bf11, bg1, bg2, bg3, -⟩ := id hB21
  show PW X 0 [(0, .ref 0), (1, .int v), (2, .int b), (3, .int w)] [] sh I L R 0 0
  refine pw_iload_n h 1 d_X7_through_0 rfl ?_
  refine pw_callS (As := [.int _]) h d_X7_through_1 mf_X7_isState st_yX7_isState ml_RX7_132 ⟨by decide, by decide, by decide⟩ rfl rfl (Nat.le_of_ble_eq_true rfl) c_X7_isState ?_
  refine PKk.ret ?_
  refine pw_if_eq 22 h d_X7_through_4 (by decide) (fun c_4 => ?_) (fun c_4 => ?_)
  · skip
    rw [bI_1] at c_4
    refine pw_iconst (x := (-1)) h d_X7_through_22 (by decide) ?_
    refine pw_callS (As := [.int _]) h d_X7_through_23 mf_X7_refusal st_yX7_refusal ml_RX7_185 ⟨by decide, by decide, by decide⟩ rfl rfl (Nat.le_of_ble_eq_true rfl) c_X7_refusal ?_
    refine PKk.ret ?_
    refine pw_lret h hr d_X7_through_26 (by decide) (by decide) ?_
    refine ⟨rfl, rfl, frB_0, frBL_0, hr0, ifA_f ?_ rfl⟩
    first | (simp only [isBn, c_4, Bool.false_and]; done) | (simp only [isBn, c_4, c_12, Bool.false_and, Bool.and_false]; done) | (simp only [isBn, c_4, c_12, c_19, Bool.and_false]; done)
  · skip
    rw [bI_1, Bool.not_eq_false] at c_4
    refine pw_aload_n h 0 d_X7_through_7 rfl ?_
    refine pw_iload_n h 2 d_X7_through_8 rfl ?_
    refine pw_callV (As := [.int _]) h d_X7_through_9 mf_X7_isBearing mi_X7_isBearing ml_RX7_115 ⟨by decide, by decide, by decide⟩ (by assumption) rfl rfl (Nat.le_of_ble_eq_true rfl) trivial (c_X7_isBearing _ (by assumption) (by assumption) (by assumption) hn h6) ?_
    refine PKk.ret ?_
    refine pw_if_eq 22 h d_X7_through_12 (by decide) (fun c_12 => ?_) (fun c_12 => ?_)
    · skip
      rw [bI_1] at c_12
      refine pw_iconst (x := (-1)) h d_X7_through_22 (by decide) ?_
      refine pw_callS (As := [.int _]) h d_X7_through_23 mf_X7_refusal st_yX7_refusal ml_RX7_185 ⟨by decide, by decide, by decide⟩ rfl rfl (Nat.le_of_ble_eq_true rfl) c_X7_refusal ?_
      refine PKk.ret ?_
      refine pw_lret h hr d_X7_through_26 (by decide) (by decide) ?_
      refine ⟨rfl, rfl, frB_0, frBL_0, hr0, ifA_f ?_ rfl⟩
      first | (simp only [isBn, c_4, Bool.false_and]; done) | (simp only [isBn, c_4, c_12, Bool.false_and, Bool.and_false]; done) | (simp only [isBn, c_4, c_12, c_19, Bool.and_false]; done)
    · skip
      rw [bI_1, Bool.not_eq_false] at c_12
      refine pw_iload_n h 3 d_X7_through_15 rfl ?_
      refine pw_callS (As := [.int _]) h d_X7_through_16 mf_X7_isPart st_yX7_isPart ml_RX7_182 ⟨by decide, by decide, by decide⟩ rfl rfl (Nat.le_of_ble_eq_true rfl) c_X7_isPart ?_
      refine PKk.ret ?_
      refine pw_if_ne 27 h d_X7_through_19 (by decide) (fun c_19 => ?_) (fun c_19 => ?_)
      · skip
        rw [bI_1, Bool.not_eq_false] at c_19
        have hx0 := isW_ix (N := 4) c_4 rfl (by decide)
        have hst := px_ix_lt hx0
        have est : v = nI v.toNatClampNeg := px_ix_eq hx0
        have hbx := isBn_ix (N := 7) c_12 (by omega)
        have hbl := isBn_ix (n := aN A) (N := aN A) c_12 (Nat.le_refl _)
        refine pw_aload_n h 0 d_X7_through_27 rfl ?_
        refine pw_aload_n h 0 d_X7_through_28 rfl ?_
        refine pw_getR (j := 21) 7 h d_X7_through_29 fd_RX7_45 (by assumption) rfl (by assumption) ?_
        refine pw_iload_n h 1 d_X7_through_32 rfl ?_
        refine pw_iconst (x := 0) h d_X7_through_33 (by decide) ?_
        refine pw_bipush (x := 13) h d_X7_through_34 (by decide) ?_
        refine pw_callV (As := [.ref 21, .int _, .int _, .int _]) h d_X7_through_36 mf_X7_goesThrough mi_X7_goesThrough ml_RX7_213 ⟨by decide, by decide, by decide⟩ (by assumption) rfl rfl (Nat.le_of_ble_eq_true rfl) trivial (c_X7_goesThrough hCl hm a (b := 21) (st := v.toNatClampNeg) (fr := 0) (to := 13) hB21 (by decide) hst est rfl rfl (by decide) (by decide)) ?_
        intro ret1 sh1 I1 L1 R1 hp1
        obtain ⟨e1, eR, fI1, fL1, bb, hbb, hb1, hb2⟩ := hp1
        have e1 := e1.symm
        have eR := eR.symm
        subst e1
        subst eR
        subst hbb
        refine ⟨rfl, ?_⟩
        refine pw_if_ne 48 h d_X7_through_39 (by decide) (fun c_39 => ?_) (fun c_39 => ?_)
        · skip
          rw [bI_1, Bool.not_eq_false] at c_39
          obtain ⟨h2, hc0, hO⟩ := hb2 c_39
          have hga := gs_all a (aN A) (Nat.le_refl _)
          have hbn := px_ix_lt hbl
          refine pw_aload_n h 0 d_X7_through_48 rfl ?_
          refine pw_getR (j := 71) 7 h d_X7_through_49 fd_RX7_85 (by assumption) rfl (by assumption) ?_
          refine pw_aload_n h 0 d_X7_through_52 rfl ?_
          refine pw_getR (j := 21) 7 h d_X7_through_53 fd_RX7_45 (by assumption) rfl (by assumption) ?_
          refine pw_getR (j := 24) 0 h d_X7_through_56 fd_RX7_217 (by assumption) rfl (by assumption) ?_
          refine pw_iload_n h 2 d_X7_through_59 rfl ?_
          refine pw_lald h d_X7_through_60 (by assumption) hbx ?_
          refine pw_aload_n h 0 d_X7_through_61 rfl ?_
          refine pw_getR (j := 21) 7 h d_X7_through_62 fd_RX7_45 (by assumption) rfl (by assumption) ?_
          refine pw_getL 0 h d_X7_through_65 fd_RX7_196 (by assumption) rfl ?_
          refine pw_callV (As := [.long _, .long _]) h d_X7_through_68 mf_X1_become mi_X1_become ml_RX7_200 ⟨by decide, by decide, by decide⟩ (by assumption) rfl rfl (Nat.le_of_ble_eq_true rfl) trivial (c_X1_become k71 _ _) ?_
          refine PKk.ret ?_
          refine pw_aload_n h 0 d_X7_through_71 rfl ?_
          refine pw_getR (j := 71) 7 h d_X7_through_72 fd_RX7_85 (by assumption) rfl (by assumption) ?_
          refine pw_iload_n h 3 d_X7_through_75 rfl ?_
          refine pw_callV (As := [.int _]) h d_X7_through_76 mf_X1_part mi_X1_part ml_RX7_203 ⟨by decide, by decide, by decide⟩ (by assumption) rfl rfl (Nat.le_of_ble_eq_true rfl) trivial (c_X1_part k71 _) ?_
          refine PKk.ret ?_
          refine pw_lret h hr d_X7_through_79 (by decide) (by decide) ?_
          refine ⟨rfl, rfl, frB_Bm (Or.inl rfl) fI1, frBL_t (frBL_Bm (Or.inl rfl) fL1) be_frL, CRest_fr (CRest_Bm hr0 (Or.inl rfl) fI1 fL1) (fun _ _ _ _ => rfl) (fun _ _ => rfl) (fun a k h1 h2 => be_fr a k (by omega)), ifA_t (by simp only [isBn, c_4, c_12, c_19, Bool.and_self]) (ifA_t (decide_eq_true h2) ?_)⟩
          exact congrArg (fun z => some (Value.long z)) (ans_ld (okS_B (okA_C a hst 0 13) h2) hO (by omega) 71 w)
        · skip
          rw [bI_1] at c_39
          have h2 := hb1 c_39
          refine pw_bipush (x := (-2)) h d_X7_through_42 (by decide) ?_
          refine pw_callS (As := [.int _]) h d_X7_through_44 mf_X7_refusal st_yX7_refusal ml_RX7_185 ⟨by decide, by decide, by decide⟩ rfl rfl (Nat.le_of_ble_eq_true rfl) c_X7_refusal ?_
          refine PKk.ret ?_
          refine pw_lret h hr d_X7_through_47 (by decide) (by decide) ?_
          exact ⟨rfl, rfl, frB_Bm (Or.inl rfl) fI1, frBL_Bm (Or.inl rfl) fL1, CRest_Bm hr0 (Or.inl rfl) fI1 fL1, ifA_t (by simp only [isBn, c_4, c_12, c_19, Bool.and_self]) (ifA_f (decide_eq_false h2) rfl)⟩
      · skip
        rw [bI_1] at c_19
        refine pw_iconst (x := (-1)) h d_X7_through_22 (by decide) ?_
        refine pw_callS (As := [.int _]) h d_X7_through_23 mf_X7_refusal st_yX7_refusal ml_RX7_185 ⟨by decide, by decide, by decide⟩ rfl rfl (Nat.le_of_ble_eq_true rfl) c_X7_refusal ?_
        refine PKk.ret ?_
        refine pw_lret h hr d_X7_through_26 (by decide) (by decide) ?_
        refine ⟨rfl, rfl, frB_0, frBL_0, hr0, ifA_f ?_ rfl⟩
        first | (simp only [isBn, c_4, Bool.false_and]; done) | (simp only [isBn, c_4, c_12, Bool.false_and, Bool.and_false]; done) | (simp only [isBn, c_4, c_12, c_19, Bool.and_false]; done)

set_option maxHeartbeats 4000000 in
set_option maxRecDepth 100000 in
theorem c_X7_table {sh : Sh} {I : IM} {L : LM} {R : RM} (hCl : ClsF sh R) {A : LA} (hm : CLm I A) (a : okA A) (hr0 : CRest I L A) (a1 b w : Int32) : PMet M_X7_table [.ref 0, .int a1, .int b, .int w] sh I L R (obs sh I L R A (fun ret => ifA (isBn (aN A) a1 && isBn (aN A) b && isW w 0 1) (ifA (decide (2 ≤ aN A)) (ret = some (.long (ansL (aldA A (oneH b.toNatClampNeg) (wCut A 0 0) a1.toNatClampNeg) w))) (ret = refL (-2))) (ret = refL (-1)))) := by
  refine PMet.of mf_X7_table (Nat.le_of_ble_eq_true rfl) ?_
  intro X h hr hml
  have hml : (xc X).maxLocals = 5 := hml
  have h : PXok X RX7 cX7_table 4 0 0 := h
  have hr : PXr X (some .long) "table" _ 0 0 := hr
  have hCl := hCl
  obtain ⟨hC, hB21, hB33, hQ, hPl⟩ := id hCl
  have hC0 := hC
  obtain ⟨k0, r0, r1, r2, r4, r5, r6, r7, r8, r13, r15, r16, hL, k7, r7s, k8s, k12, k20, r20s, hSs, k71, k72⟩ := hC
  have hL0 := hL
  obtain ⟨f0, f1, f2, f3, f4, f5, g1, g2, g3, g4, g5⟩ := hL
  have hQ0 := hQ
  obtain ⟨q0, q1, hB45, q13, q14, q15, p2, p3, p4⟩ := id hQ
  have hn := hm.1
  have h6 := a.1
  have k46 := hB45.1
  have k21 := hB21.1
  have k33 := hB33.1
  obtain ⟨bf0, bf1, bf2, bf3, bf4, bf5, bf6, bf7, bf8, bf9, bf10, bf11, bg1, bg2, bg3, -⟩ := id hB21
  show PW X 0 [(0, .ref 0), (1, .int a1), (2, .int b), (3, .int w)] [] sh I L R 0 0
  refine pw_aload_n h 0 d_X7_table_0 rfl ?_
  refine pw_iload_n h 1 d_X7_table_1 rfl ?_
  refine pw_callV (As := [.int _]) h d_X7_table_2 mf_X7_isBearing mi_X7_isBearing ml_RX7_115 ⟨by decide, by decide, by decide⟩ (by assumption) rfl rfl (Nat.le_of_ble_eq_true rfl) trivial (c_X7_isBearing _ (by assumption) (by assumption) (by assumption) hn h6) ?_
  refine PKk.ret ?_
  refine pw_if_eq 23 h d_X7_table_5 (by decide) (fun c_5 => ?_) (fun c_5 => ?_)
  · skip
    rw [bI_1] at c_5
    refine pw_iconst (x := (-1)) h d_X7_table_23 (by decide) ?_
    refine pw_callS (As := [.int _]) h d_X7_table_24 mf_X7_refusal st_yX7_refusal ml_RX7_185 ⟨by decide, by decide, by decide⟩ rfl rfl (Nat.le_of_ble_eq_true rfl) c_X7_refusal ?_
    refine PKk.ret ?_
    refine pw_lret h hr d_X7_table_27 (by decide) (by decide) ?_
    refine ⟨rfl, rfl, frB_0, frBL_0, hr0, ifA_f ?_ rfl⟩
    first | (simp only [isBn, c_5, Bool.false_and]; done) | (simp only [isBn, c_5, c_13, Bool.false_and, Bool.and_false]; done) | (simp only [isBn, c_5, c_13, c_20, Bool.and_false]; done)
  · skip
    rw [bI_1, Bool.not_eq_false] at c_5
    refine pw_aload_n h 0 d_X7_table_8 rfl ?_
    refine pw_iload_n h 2 d_X7_table_9 rfl ?_
    refine pw_callV (As := [.int _]) h d_X7_table_10 mf_X7_isBearing mi_X7_isBearing ml_RX7_115 ⟨by decide, by decide, by decide⟩ (by assumption) rfl rfl (Nat.le_of_ble_eq_true rfl) trivial (c_X7_isBearing _ (by assumption) (by assumption) (by assumption) hn h6) ?_
    refine PKk.ret ?_
    refine pw_if_eq 23 h d_X7_table_13 (by decide) (fun c_13 => ?_) (fun c_13 => ?_)
    · skip
      rw [bI_1] at c_13
      refine pw_iconst (x := (-1)) h d_X7_table_23 (by decide) ?_
      refine pw_callS (As := [.int _]) h d_X7_table_24 mf_X7_refusal st_yX7_refusal ml_RX7_185 ⟨by decide, by decide, by decide⟩ rfl rfl (Nat.le_of_ble_eq_true rfl) c_X7_refusal ?_
      refine PKk.ret ?_
      refine pw_lret h hr d_X7_table_27 (by decide) (by decide) ?_
      refine ⟨rfl, rfl, frB_0, frBL_0, hr0, ifA_f ?_ rfl⟩
      first | (simp only [isBn, c_5, Bool.false_and]; done) | (simp only [isBn, c_5, c_13, Bool.false_and, Bool.and_false]; done) | (simp only [isBn, c_5, c_13, c_20, Bool.and_false]; done)
    · skip
      rw [bI_1, Bool.not_eq_false] at c_13
      refine pw_iload_n h 3 d_X7_table_16 rfl ?_
      refine pw_callS (As := [.int _]) h d_X7_table_17 mf_X7_isPart st_yX7_isPart ml_RX7_182 ⟨by decide, by decide, by decide⟩ rfl rfl (Nat.le_of_ble_eq_true rfl) c_X7_isPart ?_
      refine PKk.ret ?_
      refine pw_if_ne 28 h d_X7_table_20 (by decide) (fun c_20 => ?_) (fun c_20 => ?_)
      · skip
        rw [bI_1, Bool.not_eq_false] at c_20
        have hax := isBn_ix (N := 7) c_5 (by omega)
        have hal := isBn_ix (n := aN A) (N := aN A) c_5 (Nat.le_refl _)
        have hbl := isBn_ix (n := aN A) (N := aN A) c_13 (Nat.le_refl _)
        have eb : b = nI b.toNatClampNeg := px_ix_eq hbl
        have hbn := px_ix_lt hbl
        have han := px_ix_lt hal
        refine pw_aload_n h 0 d_X7_table_28 rfl ?_
        refine pw_getR (j := 1) 7 h d_X7_table_29 fd_RX7_12 (by assumption) rfl (by assumption) ?_
        refine pw_getI 2 h d_X7_table_32 fd_RX7_105 (by assumption) rfl ?_
        refine pw_iconst (x := 2) h d_X7_table_35 (by decide) ?_
        refine pw_icmp_ge 45 h d_X7_table_36 (by decide) (fun c_36 => ?_) (fun c_36 => ?_)
        · skip
          have h2 : 2 ≤ aN A := k_ge hm.1 (n := 2) rfl (by omega) (by omega) c_36
          refine pw_aload_n h 0 d_X7_table_45 rfl ?_
          refine pw_getR (j := 21) 7 h d_X7_table_46 fd_RX7_45 (by assumption) rfl (by assumption) ?_
          refine pw_aload_n h 0 d_X7_table_49 rfl ?_
          refine pw_getR (j := 1) 7 h d_X7_table_50 fd_RX7_12 (by assumption) rfl (by assumption) ?_
          refine pw_getI 2 h d_X7_table_53 fd_RX7_129 (by assumption) rfl ?_
          refine pw_callV (As := [.int _]) h d_X7_table_56 mf_X0_start mi_X0_start ml_RX7_221 ⟨by decide, by decide, by decide⟩ (by assumption) rfl rfl (Nat.le_of_ble_eq_true rfl) trivial (c_X0_start hB21 _) ?_
          intro ret1 sh1 I1 L1 R1 hp1
          obtain ⟨e0, e1, eI, eL, eR⟩ := hp1
          subst e0
          have e1 := e1.symm
          have eR := eR.symm
          subst e1
          subst eR
          refine ⟨rfl, ?_⟩
          have hb1 : BmI I1 21 allS (aQ A) (oneH b.toNatClampNeg) 0 := bm_0 (by rw [eI, u2_s])
          have fI1 : frBm 21 I I1 := fun a k c1 c2 c3 => by rw [eI]; unfold u2; rw [if_neg (by omega)]
          have hL1 : L1 = u2 L 21 5 (I 1 6).toInt64 := eL
          clear eI eL
          refine pw_iconst (x := 0) h d_X7_table_59 (by decide) ?_
          refine pw_nmI (fun v4_60 e4_60 => ?_)
          refine pw_istore (lv' := [(4, .int v4_60), (0, .ref 0), (1, .int a1), (2, .int b), (3, .int w)]) h d_X7_table_60 _ hml (by decide) rfl ?_
          have cut_62 : ∀ (N i : Nat) (y : Int32) (I2 : IM) (L2 : LM), aN A < i + N → i ≤ aN A → y = nI i → frBm 21 I I2 → L2 = u2 L 21 5 (I 1 6).toInt64 → BmI I2 21 allS (aQ A) (oneH b.toNatClampNeg) i → PW X 62 [(0, .ref 0), (1, .int a1), (2, .int b), (3, .int w), (4, .int y)] [] sh I2 L2 R 0 0 := by
            intro N
            induction N with
            | zero => intros; omega
            | succ N ih =>
              intro i y I2 L2 hN hi ei fI2 hL2 hb2
              have hm2 : CLm I2 A := CLm_Bm hm (by decide) fI2
              refine pw_iload h 4 d_X7_table_62 rfl ?_
              refine pw_aload_n h 0 d_X7_table_64 rfl ?_
              refine pw_getR (j := 1) 7 h d_X7_table_65 fd_RX7_12 (by assumption) rfl (by assumption) ?_
              refine pw_getI 2 h d_X7_table_68 fd_RX7_105 (by assumption) rfl ?_
              refine pw_icmp_ge 108 h d_X7_table_71 (by decide) (fun c_71 => ?_) (fun c_71 => ?_)
              · skip
                have hge := k_ge ei hm2.1 (by omega) (by omega) c_71
                have e : i = aN A := by omega
                rw [e] at hb2
                refine pw_aload_n h 0 d_X7_table_108 rfl ?_
                refine pw_getR (j := 21) 7 h d_X7_table_109 fd_RX7_45 (by assumption) rfl (by assumption) ?_
                refine pw_aload_n h 0 d_X7_table_112 rfl ?_
                refine pw_getR (j := 1) 7 h d_X7_table_113 fd_RX7_12 (by assumption) rfl (by assumption) ?_
                refine pw_getR (j := 6) 2 h d_X7_table_116 fd_RX7_126 (by assumption) rfl (by assumption) ?_
                refine pw_iconst (x := 0) h d_X7_table_119 (by decide) ?_
                refine pw_iconst (x := 0) h d_X7_table_120 (by decide) ?_
                refine pw_callV (As := [.ref 6, .int _, .int _]) h d_X7_table_121 mf_X0_carry mi_X0_carry ml_RX7_228 ⟨by decide, by decide, by decide⟩ (by assumption) rfl rfl (Nat.le_of_ble_eq_true rfl) trivial (c_X0_carry hB21 (w := 6) f5 _ _) ?_
                intro ret4 sh4 I4 L4 R4 hp4
                obtain ⟨e0, e1, eI, eL, eR⟩ := hp4
                subst e0
                have e1 := e1.symm
                have eR := eR.symm
                subst e1
                subst eR
                refine ⟨rfl, ?_⟩
                have hL4 := eL
                have hI4 := eI.symm
                subst hI4
                clear eI eL
                refine pw_aload_n h 0 d_X7_table_124 rfl ?_
                refine pw_getR (j := 21) 7 h d_X7_table_125 fd_RX7_45 (by assumption) rfl (by assumption) ?_
                refine pw_callV (As := []) h d_X7_table_128 mf_X0_solve mi_X0_solve ml_RX7_232 ⟨by decide, by decide, by decide⟩ (by assumption) rfl rfl (Nat.le_of_ble_eq_true rfl) trivial (c_X0_solve hB21 (n := aN A) (pl := lyN allS (aQ A) (aN A)) (by rw [hb2.1, all_c]) (by omega) (fun k hk => bm_ix hb2 a.2.1 (by rw [all_c]; exact hk))) ?_
                intro ret5 sh5 I5 L5 R5 hp5
                obtain ⟨e0, e1, eI, eL, eR⟩ := hp5
                subst e0
                have e1 := e1.symm
                have eR := eR.symm
                subst e1
                subst eR
                refine ⟨rfl, ?_⟩
                have hO : SolO I2 L5 21 (aN A - 2) (lyN allS (aQ A) (aN A)) (lyQ allS (oneH b.toNatClampNeg) (aN A)) (wCut A 0 0) (stf A) := by rw [eL, hL4]; exact bm_all a hb2 h2 (cl_carP (fr := 0) (to := 0) hm2 a (by decide) (by decide)) (by rw [hL2, u2_s]; exact cl_F hm)
                have fL5 : frLb 21 L L5 := fun c k hc => by rw [eL, solL_o (by omega) (by omega), hL4, hL2]; exact carL_fr c k (by omega)
                have hI5 := eI.symm
                subst hI5
                clear eI eL
                refine pw_aload_n h 0 d_X7_table_131 rfl ?_
                refine pw_getR (j := 71) 7 h d_X7_table_132 fd_RX7_85 (by assumption) rfl (by assumption) ?_
                refine pw_aload_n h 0 d_X7_table_135 rfl ?_
                refine pw_getR (j := 21) 7 h d_X7_table_136 fd_RX7_45 (by assumption) rfl (by assumption) ?_
                refine pw_getR (j := 24) 0 h d_X7_table_139 fd_RX7_217 (by assumption) rfl (by assumption) ?_
                refine pw_iload_n h 1 d_X7_table_142 rfl ?_
                refine pw_lald h d_X7_table_143 (by assumption) hax ?_
                refine pw_aload_n h 0 d_X7_table_144 rfl ?_
                refine pw_getR (j := 21) 7 h d_X7_table_145 fd_RX7_45 (by assumption) rfl (by assumption) ?_
                refine pw_getL 0 h d_X7_table_148 fd_RX7_196 (by assumption) rfl ?_
                refine pw_callV (As := [.long _, .long _]) h d_X7_table_151 mf_X1_become mi_X1_become ml_RX7_200 ⟨by decide, by decide, by decide⟩ (by assumption) rfl rfl (Nat.le_of_ble_eq_true rfl) trivial (c_X1_become k71 _ _) ?_
                refine PKk.ret ?_
                refine pw_aload_n h 0 d_X7_table_154 rfl ?_
                refine pw_getR (j := 71) 7 h d_X7_table_155 fd_RX7_85 (by assumption) rfl (by assumption) ?_
                refine pw_iload_n h 3 d_X7_table_158 rfl ?_
                refine pw_callV (As := [.int _]) h d_X7_table_159 mf_X1_part mi_X1_part ml_RX7_203 ⟨by decide, by decide, by decide⟩ (by assumption) rfl rfl (Nat.le_of_ble_eq_true rfl) trivial (c_X1_part k71 _) ?_
                refine PKk.ret ?_
                refine pw_lret h hr d_X7_table_162 (by decide) (by decide) ?_
                refine ⟨rfl, rfl, frB_Bm (Or.inl rfl) fI2, frBL_t (frBL_Bm (Or.inl rfl) fL5) be_frL, CRest_fr (CRest_Bm hr0 (Or.inl rfl) fI2 fL5) (fun _ _ _ _ => rfl) (fun _ _ => rfl) (fun a k h1 h2 => be_fr a k (by omega)), ifA_t (by simp only [isBn, c_5, c_13, c_20, Bool.and_self]) (ifA_t (decide_eq_true h2) ?_)⟩
                exact congrArg (fun z => some (Value.long z)) (ans_ld (all_ok a one_in (by grind) (by grind) 0 0 h2) hO (by omega) 71 w)
              · skip
                have hlt := k_lt ei hm2.1 (by omega) (by omega) c_71
                have hx6 := k_ix ei (show i < 6 by omega) (by decide)
                refine pw_aload_n h 0 d_X7_table_74 rfl ?_
                refine pw_getR (j := 21) 7 h d_X7_table_75 fd_RX7_45 (by assumption) rfl (by assumption) ?_
                refine pw_aload_n h 0 d_X7_table_78 rfl ?_
                refine pw_getR (j := 1) 7 h d_X7_table_79 fd_RX7_12 (by assumption) rfl (by assumption) ?_
                refine pw_getR (j := 2) 2 h d_X7_table_82 fd_RX7_166 (by assumption) rfl (by assumption) ?_
                refine pw_iload h 4 d_X7_table_85 rfl ?_
                refine pw_iald h d_X7_table_87 (by assumption) (by assumption) ?_
                refine pw_iload h 4 d_X7_table_88 rfl ?_
                refine pw_iload_n h 2 d_X7_table_90 rfl ?_
                refine pw_icmp_ne 98 h d_X7_table_91 (by decide) (fun c_91 => ?_) (fun c_91 => ?_)
                · skip
                  have hv : ((0 : Int32).toInt : Rat) = oneH b.toNatClampNeg i := by unfold oneH; rw [if_neg (fun q => c_91 (by rw [ei, q]; exact eb.symm))]; rfl
                  refine pw_iconst (x := 0) h d_X7_table_98 (by decide) ?_
                  refine pw_callV (As := [.int _, .int _]) h d_X7_table_99 mf_X0_add mi_X0_add ml_RX7_224 ⟨by decide, by decide, by decide⟩ (by assumption) rfl rfl (Nat.le_of_ble_eq_true rfl) trivial (c_X0_add hB21 (n := cntS allS i) hb2.1 (by rw [all_c]; omega) _ _) ?_
                  intro ret3 sh3 I3 L3 R3 hp3
                  obtain ⟨e0, e1, eI, eL, eR⟩ := hp3
                  subst e0
                  have e1 := e1.symm
                  have eR := eR.symm
                  subst e1
                  subst eR
                  refine ⟨rfl, ?_⟩
                  have hb3 := bm_add hb2 (rfl : allS i = true) (hm2.2.1 i hlt) hv
                  rw [if_pos (by rw [all_c]; omega)] at eI
                  rw [← eI] at hb3
                  have fI3 : frBm 21 I I3 := frBm_t fI2 (by rw [eI]; exact bm_fr)
                  have hL3 : L3 = u2 L 21 5 (I 1 6).toInt64 := eL.trans hL2
                  clear eI eL
                  obtain ⟨v4_102, e4_102⟩ : ∃ z : Int32, z = y + (1) := ⟨_, rfl⟩
                  refine pw_iinc (lv' := [(4, .int v4_102), (0, .ref 0), (1, .int a1), (2, .int b), (3, .int w)]) v4_102 h d_X7_table_102 4 rfl e4_102.symm _ hml (by decide) rfl ?_
                  refine pw_goto 62 h d_X7_table_105 (by decide) ?_
                  refine PW.perm [1, 2, 3, 4, 0] rfl ?_
                  exact ih (i + 1) v4_102 _ _ (by omega) (by omega) (k_up e4_102 ei) fI3 hL3 hb3
                · skip
                  have hv : ((1 : Int32).toInt : Rat) = oneH b.toNatClampNeg i := by unfold oneH; rw [if_pos ((nI_eq (by omega) (by omega)).mp (by rw [← ei, ← eb]; exact c_91))]; rfl
                  refine pw_iconst (x := 1) h d_X7_table_94 (by decide) ?_
                  refine pw_goto 99 h d_X7_table_95 (by decide) ?_
                  refine pw_callV (As := [.int _, .int _]) h d_X7_table_99 mf_X0_add mi_X0_add ml_RX7_224 ⟨by decide, by decide, by decide⟩ (by assumption) rfl rfl (Nat.le_of_ble_eq_true rfl) trivial (c_X0_add hB21 (n := cntS allS i) hb2.1 (by rw [all_c]; omega) _ _) ?_
                  intro ret3 sh3 I3 L3 R3 hp3
                  obtain ⟨e0, e1, eI, eL, eR⟩ := hp3
                  subst e0
                  have e1 := e1.symm
                  have eR := eR.symm
                  subst e1
                  subst eR
                  refine ⟨rfl, ?_⟩
                  have hb3 := bm_add hb2 (rfl : allS i = true) (hm2.2.1 i hlt) hv
                  rw [if_pos (by rw [all_c]; omega)] at eI
                  rw [← eI] at hb3
                  have fI3 : frBm 21 I I3 := frBm_t fI2 (by rw [eI]; exact bm_fr)
                  have hL3 : L3 = u2 L 21 5 (I 1 6).toInt64 := eL.trans hL2
                  clear eI eL
                  obtain ⟨v4_102, e4_102⟩ : ∃ z : Int32, z = y + (1) := ⟨_, rfl⟩
                  refine pw_iinc (lv' := [(4, .int v4_102), (0, .ref 0), (1, .int a1), (2, .int b), (3, .int w)]) v4_102 h d_X7_table_102 4 rfl e4_102.symm _ hml (by decide) rfl ?_
                  refine pw_goto 62 h d_X7_table_105 (by decide) ?_
                  refine PW.perm [1, 2, 3, 4, 0] rfl ?_
                  exact ih (i + 1) v4_102 _ _ (by omega) (by omega) (k_up e4_102 ei) fI3 hL3 hb3
          refine PW.perm [1, 2, 3, 4, 0] rfl ?_
          exact cut_62 (aN A + 1) 0 v4_60 _ _ (by omega) (by omega) e4_60 fI1 hL1 hb1
        · skip
          have h2 : ¬ 2 ≤ aN A := fun q => by have := k_lt hm.1 (n := 2) rfl (by omega) (by omega) c_36; omega
          refine pw_bipush (x := (-2)) h d_X7_table_39 (by decide) ?_
          refine pw_callS (As := [.int _]) h d_X7_table_41 mf_X7_refusal st_yX7_refusal ml_RX7_185 ⟨by decide, by decide, by decide⟩ rfl rfl (Nat.le_of_ble_eq_true rfl) c_X7_refusal ?_
          refine PKk.ret ?_
          refine pw_lret h hr d_X7_table_44 (by decide) (by decide) ?_
          exact ⟨rfl, rfl, frB_0, frBL_0, hr0, ifA_t (by simp only [isBn, c_5, c_13, c_20, Bool.and_self]) (ifA_f (decide_eq_false h2) rfl)⟩
      · skip
        rw [bI_1] at c_20
        refine pw_iconst (x := (-1)) h d_X7_table_23 (by decide) ?_
        refine pw_callS (As := [.int _]) h d_X7_table_24 mf_X7_refusal st_yX7_refusal ml_RX7_185 ⟨by decide, by decide, by decide⟩ rfl rfl (Nat.le_of_ble_eq_true rfl) c_X7_refusal ?_
        refine PKk.ret ?_
        refine pw_lret h hr d_X7_table_27 (by decide) (by decide) ?_
        refine ⟨rfl, rfl, frB_0, frBL_0, hr0, ifA_f ?_ rfl⟩
        first | (simp only [isBn, c_5, Bool.false_and]; done) | (simp only [isBn, c_5, c_13, Bool.false_and, Bool.and_false]; done) | (simp only [isBn, c_5, c_13, c_20, Bool.and_false]; done)
