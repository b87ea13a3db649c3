set_option maxHeartbeats 4000000 in
set_option maxRecDepth 100000 in
theorem c_X8_coupling {sh : Sh} {I : IM} {L : LM} {R : RM} {m : Nat} {A : LA} (hM : ModF sh R m) (hm : MSm I m A) (a : okA A) (v p u w : Int32) : PMet M_X8_coupling [.ref m, .int v, .int p, .int u, .int w] sh I L R (obM sh I L R m (fun ret => ifA (isW v 0 3 && isW p 0 12 && isW u 0 1 && isW w 0 1) (ifA (decide (2 ≤ cntS (gsB A 0 p.toNatClampNeg) (aN A)) && decide (2 ≤ cntS (gsB A p.toNatClampNeg 13) (aN A))) (ret = some (.long (ansL (eoA A v.toNatClampNeg 0 p.toNatClampNeg p.toNatClampNeg u - eoA A v.toNatClampNeg p.toNatClampNeg 13 p.toNatClampNeg u) w))) (ret = refL (-2))) (ret = refL (-1)))) := by
  refine PMet.of mf_X8_coupling (Nat.le_of_ble_eq_true rfl) ?_
  intro X h hr hml
  have hml : (xc X).maxLocals = 9 := hml
  have h : PXok X RX8 cX8_coupling 8 0 0 := h
  have hr : PXr X (some .long) "coupling" _ 0 0 := hr
  have hM0 := hM
  obtain ⟨f0, f1, f2, f3, f4, f5, f6, f7, f8, f9, f10, f11, f12, f13, f14, f15, f16, f17, f18, f19, f20, f21, f22, f23, f24, f25, f26, f27, g1, g2, g3, g4, g5, g6, g7, g8, g9, g10, g11, g12, g13, g14, g15, g16, g17, g18, g19, g20, g21, g22, g23, g24, g25, g26, g27⟩ := hM
  have hn := hm.1
  have h6 := a.1
  show PW X 0 [(0, .ref m), (1, .int v), (2, .int p), (3, .int u), (4, .int w)] [] sh I L R 0 0
  refine pw_iload_n h 1 d_X8_coupling_0 rfl ?_
  refine pw_callS (As := [.int _]) h d_X8_coupling_1 mf_X8_isState st_yX8_isState ml_RX8_135 ⟨by decide, by decide, by decide⟩ rfl rfl (Nat.le_of_ble_eq_true rfl) c_X8_isState ?_
  refine PKk.ret ?_
  refine pw_if_eq 35 h d_X8_coupling_4 (by decide) (fun c_4 => ?_) (fun c_4 => ?_)
  · skip
    rw [bI_1] at c_4
    refine pw_ldc2 h d_X8_coupling_35 ck_RX8_290 ?_
    refine pw_lret h hr d_X8_coupling_38 (by decide) (by decide) ?_
    refine ⟨rfl, rfl, frMI_0, frML_0, ifA_f ?_ rfl⟩
    first | (simp only [c_4, Bool.false_and]; done) | (simp only [c_11, Bool.false_and, Bool.and_false]; done) | (simp only [c_21, Bool.false_and, Bool.and_false]; done) | (simp only [c_32, Bool.and_false]; done)
  · skip
    rw [bI_1, Bool.not_eq_false] at c_4
    refine pw_iload_n h 2 d_X8_coupling_7 rfl ?_
    refine pw_callS (As := [.int _]) h d_X8_coupling_8 mf_X8_isPlace st_yX8_isPlace ml_RX8_112 ⟨by decide, by decide, by decide⟩ rfl rfl (Nat.le_of_ble_eq_true rfl) c_X8_isPlace ?_
    refine PKk.ret ?_
    refine pw_if_eq 35 h d_X8_coupling_11 (by decide) (fun c_11 => ?_) (fun c_11 => ?_)
    · skip
      rw [bI_1] at c_11
      refine pw_ldc2 h d_X8_coupling_35 ck_RX8_290 ?_
      refine pw_lret h hr d_X8_coupling_38 (by decide) (by decide) ?_
      refine ⟨rfl, rfl, frMI_0, frML_0, ifA_f ?_ rfl⟩
      first | (simp only [c_4, Bool.false_and]; done) | (simp only [c_11, Bool.false_and, Bool.and_false]; done) | (simp only [c_21, Bool.false_and, Bool.and_false]; done) | (simp only [c_32, Bool.and_false]; done)
    · skip
      rw [bI_1, Bool.not_eq_false] at c_11
      refine pw_iload_n h 3 d_X8_coupling_14 rfl ?_
      refine pw_i2l h d_X8_coupling_15 ?_
      refine pw_lconst (x := 0) h d_X8_coupling_16 (by decide) ?_
      refine pw_lconst (x := 1) h d_X8_coupling_17 (by decide) ?_
      refine pw_callS (As := [.long _, .long _, .long _]) h d_X8_coupling_18 mf_X8_in st_yX8_in ml_RX8_105 ⟨by decide, by decide, by decide⟩ rfl rfl (Nat.le_of_ble_eq_true rfl) (c_X8_inW (a := 0) (b := 1) rfl rfl) ?_
      refine PKk.ret ?_
      refine pw_if_eq 35 h d_X8_coupling_21 (by decide) (fun c_21 => ?_) (fun c_21 => ?_)
      · skip
        rw [bI_1] at c_21
        refine pw_ldc2 h d_X8_coupling_35 ck_RX8_290 ?_
        refine pw_lret h hr d_X8_coupling_38 (by decide) (by decide) ?_
        refine ⟨rfl, rfl, frMI_0, frML_0, ifA_f ?_ rfl⟩
        first | (simp only [c_4, Bool.false_and]; done) | (simp only [c_11, Bool.false_and, Bool.and_false]; done) | (simp only [c_21, Bool.false_and, Bool.and_false]; done) | (simp only [c_32, Bool.and_false]; done)
      · skip
        rw [bI_1, Bool.not_eq_false] at c_21
        refine pw_iload h 4 d_X8_coupling_24 rfl ?_
        refine pw_i2l h d_X8_coupling_26 ?_
        refine pw_lconst (x := 0) h d_X8_coupling_27 (by decide) ?_
        refine pw_lconst (x := 1) h d_X8_coupling_28 (by decide) ?_
        refine pw_callS (As := [.long _, .long _, .long _]) h d_X8_coupling_29 mf_X8_in st_yX8_in ml_RX8_105 ⟨by decide, by decide, by decide⟩ rfl rfl (Nat.le_of_ble_eq_true rfl) (c_X8_inW (a := 0) (b := 1) rfl rfl) ?_
        refine PKk.ret ?_
        refine pw_if_ne 39 h d_X8_coupling_32 (by decide) (fun c_32 => ?_) (fun c_32 => ?_)
        · skip
          rw [bI_1, Bool.not_eq_false] at c_32
          have hx0 := isW_ix (N := 4) c_4 rfl (by decide)
          have hst := px_ix_lt hx0
          have est : v = nI v.toNatClampNeg := px_ix_eq hx0
          have hpx := isW_ix (N := 13) c_11 rfl (by decide)
          have hp13 := px_ix_lt hpx
          have epx : p = nI p.toNatClampNeg := px_ix_eq hpx
          refine pw_aload_n h 0 d_X8_coupling_39 rfl ?_
          refine pw_iload_n h 1 d_X8_coupling_40 rfl ?_
          refine pw_iload_n h 2 d_X8_coupling_41 rfl ?_
          refine pw_iconst (x := 0) h d_X8_coupling_42 (by decide) ?_
          refine pw_callV (As := [.int _, .int _, .int _]) h d_X8_coupling_43 mf_X8_isPart mi_X8_isPart ml_RX8_313 ⟨by decide, by decide, by decide⟩ (by assumption) rfl rfl (Nat.le_of_ble_eq_true rfl) trivial (c_X8_isPart hM0 hm a hst est epx hp13 sd_0) ?_
          intro ret1 sh1 I1 L1 R1 hp1
          obtain ⟨e1, eR, fq1, gq1, hres1⟩ := hp1
          have e1 := e1.symm
          have eR := eR.symm
          subst e1
          subst eR
          obtain ⟨bb1, ebb1, hy1, hn1⟩ := ipt_or hres1
          subst ebb1
          refine ⟨rfl, ?_⟩
          refine pw_if_ne 53 h d_X8_coupling_46 (by decide) (fun c_46 => ?_) (fun c_46 => ?_)
          · skip
            rw [bI_1, Bool.not_eq_false] at c_46
            obtain ⟨h2R, hS1, hlo1⟩ := hy1 c_46
            have hBR := okS_B (okA_C a hst p.toNatClampNeg 13) h2R
            obtain ⟨f, D2, hF, hf1, hf2, hf3, hDQ2, hD2, hDl2⟩ := f6_ok2 hBR hS1
            have hm1 := MSm_MI hm fq1
            refine pw_aload_n h 0 d_X8_coupling_53 rfl ?_
            refine pw_iload_n h 2 d_X8_coupling_54 rfl ?_
            refine pw_iload_n h 3 d_X8_coupling_55 rfl ?_
            refine pw_callV (As := [.int _, .int _]) h d_X8_coupling_56 mf_X8_endOf mi_X8_endOf ml_RX8_317 ⟨by decide, by decide, by decide⟩ (by assumption) rfl rfl (Nat.le_of_ble_eq_true rfl) trivial (c_X8_endOf hM0 hBR hS1 hlo1 hDQ2 hD2 hDl2 hF hf3 hf1 hf2 epx (by omega) u) ?_
            intro ret2 sh2 I2 L2 R2_ hp2
            obtain ⟨e0, e1, eR, eI, f2, p2⟩ := hp2
            subst e0
            have e1 := e1.symm
            have eR := eR.symm
            have eI := eI.symm
            subst e1
            subst eR
            subst eI
            refine ⟨rfl, ?_⟩
            refine pw_aload_n h 0 d_X8_coupling_59 rfl ?_
            refine pw_getL 8 h d_X8_coupling_60 fd_RX8_202 (by assumption) rfl ?_
            refine pw_nmL (fun v5_63 e5_63 => ?_)
            refine pw_lstore (lv' := [(5, .long v5_63), (0, .ref m), (1, .int v), (2, .int p), (3, .int u), (4, .int w)]) h d_X8_coupling_63 _ hml (by decide) rfl ?_
            refine pw_aload_n h 1 d_X8_coupling_65 rfl ?_
            refine pw_getL 8 h d_X8_coupling_66 fd_RX8_44 (by assumption) rfl ?_
            refine pw_nmL (fun v7_69 e7_69 => ?_)
            refine pw_lstore (lv' := [(7, .long v7_69), (5, .long v5_63), (0, .ref m), (1, .int v), (2, .int p), (3, .int u), (4, .int w)]) h d_X8_coupling_69 _ hml (by decide) rfl ?_
            refine pw_aload_n h 2 d_X8_coupling_71 rfl ?_
            refine pw_iload_n h 3 d_X8_coupling_72 rfl ?_
            refine pw_iload_n h 4 d_X8_coupling_73 rfl ?_
            refine pw_iconst (x := 1) h d_X8_coupling_74 (by decide) ?_
            refine pw_callV (As := [.int _, .int _, .int _]) h d_X8_coupling_75 mf_X8_isPart mi_X8_isPart ml_RX8_313 ⟨by decide, by decide, by decide⟩ (by assumption) rfl rfl (Nat.le_of_ble_eq_true rfl) trivial (c_X8_isPart hM0 hm1 a hst est epx hp13 sd_1) ?_
            intro ret3 sh3 I3 L3 R3 hp3
            obtain ⟨e1, eR, fq3, gq3, hres3⟩ := hp3
            have e1 := e1.symm
            have eR := eR.symm
            subst e1
            subst eR
            obtain ⟨bb3, ebb3, hy3, hn3⟩ := ipt_or hres3
            subst ebb3
            refine ⟨rfl, ?_⟩
            refine pw_if_ne 85 h d_X8_coupling_78 (by decide) (fun c_78 => ?_) (fun c_78 => ?_)
            · skip
              rw [bI_1, Bool.not_eq_false] at c_78
              obtain ⟨h2L, hS3, hlo3⟩ := hy3 c_78
              have hBL := okS_B (okA_C a hst 0 p.toNatClampNeg) h2L
              obtain ⟨f_, D1, hF_, hf1_, hf2_, hf3_, hDQ1, hD1, hDl1⟩ := f6_ok2 hBL hS3
              have ef : f_ = f := by have q9 := hF_.symm.trans hF; exact Rat.natCast_inj.mp q9
              subst ef
              refine pw_aload_n h 2 d_X8_coupling_85 rfl ?_
              refine pw_iload_n h 4 d_X8_coupling_86 rfl ?_
              refine pw_iload_n h 5 d_X8_coupling_87 rfl ?_
              refine pw_callV (As := [.int _, .int _]) h d_X8_coupling_88 mf_X8_endOf mi_X8_endOf ml_RX8_317 ⟨by decide, by decide, by decide⟩ (by assumption) rfl rfl (Nat.le_of_ble_eq_true rfl) trivial (c_X8_endOf hM0 hBL hS3 hlo3 hDQ1 hD1 hDl1 hF hf3_ hf1 hf2 epx (by omega) u) ?_
              intro ret4 sh4 I4 L4 R4_ hp4
              obtain ⟨e0, e1, eR, eI, f4, p4⟩ := hp4
              subst e0
              have e1 := e1.symm
              have eR := eR.symm
              have eI := eI.symm
              subst e1
              subst eR
              subst eI
              refine ⟨rfl, ?_⟩
              refine pw_aload_n h 2 d_X8_coupling_91 rfl ?_
              refine pw_lload h 1 d_X8_coupling_92 rfl ?_
              refine pw_lneg h d_X8_coupling_94 ?_
              refine pw_lload h 0 d_X8_coupling_95 rfl ?_
              have hl := (gs_pl (A := A) (fr := 0) (to := p.toNatClampNeg) (k := cntS (gsB A 0 p.toNatClampNeg) (aN A) - 2 + 1) (by omega)).2
              have hr_ := (gs_pl (A := A) (fr := p.toNatClampNeg) (to := 13) (k := 0) (by omega)).1
              have r2b : RF v5_63 v7_69 (eoP (lyN (gsB A p.toNatClampNeg 13) (aQ A) (aN A)) (lyQ (gsB A p.toNatClampNeg 13) (hgt A v.toNatClampNeg) (aN A)) (wCut A p.toNatClampNeg 13) (stf A) (cntS (gsB A p.toNatClampNeg 13) (aN A) - 2) p.toNatClampNeg u) := by rw [e5_63, e7_69]; exact p2.1
              have hk := cpl_M hBL hBR hDQ1 hDQ2 hD1 hD2 hf1 hf2 hp13 hl hr_ p4 r2b p2.2
              refine pw_callV (As := [.long _, .long _]) h d_X8_coupling_97 mf_X8_adds mi_X8_adds ml_RX8_235 ⟨by decide, by decide, by decide⟩ (by assumption) rfl rfl (Nat.le_of_ble_eq_true rfl) trivial (c_X8_adds hM0 _ _ hk.1 hk.2.1) ?_
              intro ret5 sh5 I5 L5 R5_ hp5
              obtain ⟨e0, e1, eI, eL, eR⟩ := hp5
              subst e0
              have e1 := e1.symm
              have eR := eR.symm
              have eI := eI.symm
              subst e1
              subst eR
              subst eI
              refine ⟨rfl, ?_⟩
              have fL5 : frML m L L5 := frML_t gq1 (frML_t (frML_U f2) (frML_t gq3 (frML_t (frML_U f4) (by rw [eL]; exact frML_F adL_fr))))
              have r5 : RF (L5 m 17) (L5 m 18) ((eoP (lyN (gsB A 0 p.toNatClampNeg) (aQ A) (aN A)) (lyQ (gsB A 0 p.toNatClampNeg) (hgt A v.toNatClampNeg) (aN A)) (wCut A 0 p.toNatClampNeg) (stf A) (cntS (gsB A 0 p.toNatClampNeg) (aN A) - 2) p.toNatClampNeg u) - (eoP (lyN (gsB A p.toNatClampNeg 13) (aQ A) (aN A)) (lyQ (gsB A p.toNatClampNeg 13) (hgt A v.toNatClampNeg) (aN A)) (wCut A p.toNatClampNeg 13) (stf A) (cntS (gsB A p.toNatClampNeg 13) (aN A) - 2) p.toNatClampNeg u)) := by rw [eL]; exact hk.2.2
              clear eL
              refine pw_aload_n h 2 d_X8_coupling_100 rfl ?_
              refine pw_iload h 6 d_X8_coupling_101 rfl ?_
              refine pw_callV (As := [.int _]) h d_X8_coupling_103 mf_X8_part mi_X8_part ml_RX8_305 ⟨by decide, by decide, by decide⟩ (by assumption) rfl rfl (Nat.le_of_ble_eq_true rfl) trivial (c_X8_part hM0 _) ?_
              refine PKk.ret ?_
              refine pw_lret h hr d_X8_coupling_106 (by decide) (by decide) ?_
              exact ⟨rfl, rfl, frMI_t fq1 fq3, fL5, ifA_t (by simp only [c_4, c_11, c_21, c_32, Bool.and_self]) (ifA_t (by rw [decide_eq_true h2L, decide_eq_true h2R]; rfl) (congrArg (fun z => some (Value.long z)) (RF_ans r5 w)))⟩
            · skip
              rw [bI_1] at c_78
              refine pw_ldc2 h d_X8_coupling_81 ck_RX8_299 ?_
              refine pw_lret h hr d_X8_coupling_84 (by decide) (by decide) ?_
              exact ⟨rfl, rfl, frMI_t fq1 fq3, frML_t gq1 (frML_t (frML_U f2) gq3), ifA_t (by simp only [c_4, c_11, c_21, c_32, Bool.and_self]) (ifA_f (by rw [decide_eq_false (hn3 c_78), Bool.false_and]) rfl)⟩
          · skip
            rw [bI_1] at c_46
            refine pw_ldc2 h d_X8_coupling_49 ck_RX8_299 ?_
            refine pw_lret h hr d_X8_coupling_52 (by decide) (by decide) ?_
            exact ⟨rfl, rfl, fq1, gq1, ifA_t (by simp only [c_4, c_11, c_21, c_32, Bool.and_self]) (ifA_f (by rw [decide_eq_false (hn1 c_46), Bool.and_false]) rfl)⟩
        · skip
          rw [bI_1] at c_32
          refine pw_ldc2 h d_X8_coupling_35 ck_RX8_290 ?_
          refine pw_lret h hr d_X8_coupling_38 (by decide) (by decide) ?_
          refine ⟨rfl, rfl, frMI_0, frML_0, ifA_f ?_ rfl⟩
          first | (simp only [c_4, Bool.false_and]; done) | (simp only [c_11, Bool.false_and, Bool.and_false]; done) | (simp only [c_21, Bool.false_and, Bool.and_false]; done) | (simp only [c_32, Bool.and_false]; done)

set_option maxHeartbeats 4000000 in
set_option maxRecDepth 100000 in
theorem c_X8_isFit {sh : Sh} {I : IM} {L : LM} {R : RM} {m : Nat} {A : LA} (hM : ModF sh R m) (hm : MSm I m A) (a : okA A) {lo hi : Int} (hlh : LHm I m lo hi) (v : Int32) : PMet M_X8_isFit [.ref m, .int v] sh I L R (obM sh I L R m (fun ret => ∃ bb : Bool, ret = some (.int (bI bb)) ∧ (bb = true ↔ fitP A lo hi (selM v) 4))) := by
  refine PMet.of mf_X8_isFit (Nat.le_of_ble_eq_true rfl) ?_
  intro X h hr hml
  have hml : (xc X).maxLocals = 5 := hml
  have h : PXok X RX8 cX8_isFit 9 0 0 := h
  have hr : PXr X (some .boolean) "isFit" _ 0 0 := hr
  have hM0 := hM
  obtain ⟨f0, f1, f2, f3, f4, f5, f6, f7, f8, f9, f10, f11, f12, f13, f14, f15, f16, f17, f18, f19, f20, f21, f22, f23, f24, f25, f26, f27, g1, g2, g3, g4, g5, g6, g7, g8, g9, g10, g11, g12, g13, g14, g15, g16, g17, g18, g19, g20, g21, g22, g23, g24, g25, g26, g27⟩ := hM
  have hn := hm.1
  have h6 := a.1
  show PW X 0 [(0, .ref m), (1, .int v)] [] sh I L R 0 0
  refine pw_iconst (x := 0) h d_X8_isFit_0 (by decide) ?_
  refine pw_nmI (fun v2_1 e2_1 => ?_)
  refine pw_istore_n (lv' := [(2, .int v2_1), (0, .ref m), (1, .int v)]) h d_X8_isFit_1 rfl _ hml (by decide) rfl ?_
  have cut_2 : ∀ (N i : Nat) (u : Int32) (I2 : IM) (L2 : LM), 4 < i + N → i ≤ 4 → u = nI i → frMI m I I2 → frML m L L2 → fitP A lo hi (selM v) i → PW X 2 [(0, .ref m), (1, .int v), (2, .int u)] [] sh I2 L2 R 0 0 := by
    intro N
    induction N with
    | zero => intros; omega
    | succ N ih =>
      intro i u I2 L2 hN hi4 ev f2 g2 hfit
      have hm2 := MSm_MI hm f2
      refine pw_iload_n h 2 d_X8_isFit_2 rfl ?_
      refine pw_iconst (x := 4) h d_X8_isFit_3 (by decide) ?_
      refine pw_icmp_ge 112 h d_X8_isFit_4 (by decide) (fun c_4 => ?_) (fun c_4 => ?_)
      · skip
        have hge := k_ge ev (n := 4) rfl (by omega) (by omega) c_4
        have e9 : i = 4 := by omega
        subst e9
        refine pw_iconst (x := 1) h d_X8_isFit_112 (by decide) ?_
        refine pw_iret h hr d_X8_isFit_113 (by decide) (by decide) (by decide) ?_
        exact ⟨rfl, rfl, f2, g2, true, rfl, ⟨fun _ => hfit, fun _ => rfl⟩⟩
      · skip
        have hst : i < 4 := k_lt ev (n := 4) rfl (by omega) (by omega) c_4
        refine pw_iload_n h 1 d_X8_isFit_7 rfl ?_
        refine pw_iload_n h 2 d_X8_isFit_8 rfl ?_
        refine pw_ishr h d_X8_isFit_9 ?_
        refine pw_iconst (x := 1) h d_X8_isFit_10 (by decide) ?_
        refine pw_iand h d_X8_isFit_11 ?_
        refine pw_iconst (x := 1) h d_X8_isFit_12 (by decide) ?_
        refine pw_icmp_ne 106 h d_X8_isFit_13 (by decide) (fun c_13 => ?_) (fun c_13 => ?_)
        · skip
          have hsv : selM v i = false := by rw [ev] at c_13; exact decide_eq_false c_13
          obtain ⟨v2_106, e2_106⟩ : ∃ z : Int32, z = u + (1) := ⟨_, rfl⟩
          refine pw_iinc (lv' := [(2, .int v2_106), (0, .ref m), (1, .int v)]) v2_106 h d_X8_isFit_106 2 rfl e2_106.symm _ hml (by decide) rfl ?_
          refine pw_goto 2 h d_X8_isFit_109 (by decide) ?_
          refine PW.perm [1, 2, 0] rfl ?_
          exact ih (i + 1) _ _ _ (by omega) (by omega) (k_up e2_106 ev) f2 g2 (fitU_y hfit (fun q9 => by rw [hsv] at q9; cases q9))
        · skip
          have hsv : selM v i = true := by rw [ev] at c_13; exact decide_eq_true c_13
          refine pw_aload_n h 0 d_X8_isFit_16 rfl ?_
          refine pw_iload_n h 2 d_X8_isFit_17 rfl ?_
          refine pw_iconst (x := (-1)) h d_X8_isFit_18 (by decide) ?_
          refine pw_iconst (x := 0) h d_X8_isFit_19 (by decide) ?_
          refine pw_callV (As := [.int _, .int _, .int _]) h d_X8_isFit_20 mf_X8_stands mi_X8_stands ml_RX8_292 ⟨by decide, by decide, by decide⟩ (by assumption) rfl rfl (Nat.le_of_ble_eq_true rfl) trivial (c_X8_stands hM0 hm2 a hst ev (std_A a _ _ (-4)) (by decide)) ?_
          intro ret3 sh3 I3 L3 R3_ hp3
          obtain ⟨e0, e1, eR, eL, fs3, hc3, hj3⟩ := hp3
          subst e0
          have e1 := e1.symm
          have eR := eR.symm
          have eL := eL.symm
          subst e1
          subst eR
          subst eL
          refine ⟨rfl, ?_⟩
          have fM3 : frMI m I I3 := frMI_t f2 (frMI_S fs3)
          have hm3 := MSm_MI hm fM3
          refine pw_aload_n h 0 d_X8_isFit_23 rfl ?_
          refine pw_callV (As := []) h d_X8_isFit_24 mf_X8_rests mi_X8_rests ml_RX8_296 ⟨by decide, by decide, by decide⟩ (by assumption) rfl rfl (Nat.le_of_ble_eq_true rfl) trivial (c_X8_rests hM0 hc3 (okA_S a hst)) ?_
          intro ret4 sh4 I4 L4 R4 hp4
          obtain ⟨e1, eR, fr4, g4, hres4⟩ := hp4
          have e1 := e1.symm
          have eR := eR.symm
          subst e1
          subst eR
          obtain ⟨x4, ex4, hx1, hx2⟩ := rsm_or (by omega) hres4
          subst ex4
          have fM4 : frMI m I I4 := frMI_t fM3 (frMI_C fr4)
          have hm4 := MSm_MI hm fM4
          have fL4 : frML m L L4 := frML_t g2 (frML_G g4)
          have hlh5 := LHm_MI hlh fM4
          refine ⟨rfl, ?_⟩
          refine pw_nmI (fun v3_27 e3_27 => ?_)
          refine pw_istore_n (lv' := [(3, .int v3_27), (0, .ref m), (1, .int v), (2, .int u)]) h d_X8_isFit_27 rfl _ hml (by decide) rfl ?_
          refine pw_iconst (x := 0) h d_X8_isFit_28 (by decide) ?_
          refine pw_nmI (fun v4_29 e4_29 => ?_)
          refine pw_istore (lv' := [(4, .int v4_29), (3, .int v3_27), (0, .ref m), (1, .int v), (2, .int u)]) h d_X8_isFit_29 _ hml (by decide) rfl ?_
          have cut_31 : ∀ (N b : Nat) (y t : Int32) (L5 : LM), aN A < b + N → b ≤ aN A → t = nI b → frML m L L5 → frF m L4 L5 → wbI A lo hi i x4 y b → PW X 31 [(0, .ref m), (1, .int v), (2, .int u), (3, .int y), (4, .int t)] [] sh I4 L5 R 0 0 := by
            intro N
            induction N with
            | zero => intros; omega
            | succ N ihb =>
              intro b y t L5 hN hb eb fL5 g5 hwb
              refine pw_iload h 4 d_X8_isFit_31 rfl ?_
              refine pw_aload_n h 0 d_X8_isFit_33 rfl ?_
              refine pw_getI 8 h d_X8_isFit_34 fd_RX8_109 (by assumption) rfl ?_
              refine pw_icmp_ge 100 h d_X8_isFit_37 (by decide) (fun c_37 => ?_) (fun c_37 => ?_)
              · skip
                have hge : aN A ≤ b := k_ge eb hm4.1 (by omega) (by omega) c_37
                have hend := wbI_e hwb (fun q9 => by obtain ⟨c, hc, _⟩ := hx1 q9; exact ⟨c, hc⟩) (Or.inr (by omega))
                refine pw_iload_n h 3 d_X8_isFit_100 rfl ?_
                refine pw_if_ge 106 h d_X8_isFit_101 (by decide) (fun c_101 => ?_) (fun c_101 => ?_)
                · skip
                  obtain ⟨v2_106, e2_106⟩ : ∃ z : Int32, z = u + (1) := ⟨_, rfl⟩
                  refine pw_iinc (lv' := [(2, .int v2_106), (0, .ref m), (1, .int v), (3, .int y), (4, .int t)]) v2_106 h d_X8_isFit_106 2 rfl e2_106.symm _ hml (by decide) rfl ?_
                  refine pw_goto 2 h d_X8_isFit_109 (by decide) ?_
                  refine PW.perm [1, 2, 0] rfl ?_
                  exact ih (i + 1) _ _ _ (by omega) (by omega) (k_up e2_106 ev) fM4 fL5 (fitU_y hfit (fun _ => hend.1 c_101))
                · skip
                  refine pw_iconst (x := 0) h d_X8_isFit_104 (by decide) ?_
                  refine pw_iret h hr d_X8_isFit_105 (by decide) (by decide) (by decide) ?_
                  exact ⟨rfl, rfl, fM4, fL5, false, rfl, ⟨fun q9 => absurd q9 (by decide), fun q9 => absurd q9 (fitU_n hst hsv (hend.2 c_101))⟩⟩
              · skip
                have hbn : b < aN A := k_lt eb hm4.1 (by omega) (by omega) c_37
                refine pw_iload_n h 3 d_X8_isFit_40 rfl ?_
                refine pw_if_lt 100 h d_X8_isFit_41 (by decide) (fun c_41 => ?_) (fun c_41 => ?_)
                · skip
                  have hend := wbI_e hwb (fun q9 => by obtain ⟨c, hc, _⟩ := hx1 q9; exact ⟨c, hc⟩) (Or.inl (Int32.not_le.mpr c_41))
                  refine pw_iload_n h 3 d_X8_isFit_100 rfl ?_
                  refine pw_if_ge 106 h d_X8_isFit_101 (by decide) (fun c_101 => ?_) (fun c_101 => ?_)
                  · skip
                    obtain ⟨v2_106, e2_106⟩ : ∃ z : Int32, z = u + (1) := ⟨_, rfl⟩
                    refine pw_iinc (lv' := [(2, .int v2_106), (0, .ref m), (1, .int v), (3, .int y), (4, .int t)]) v2_106 h d_X8_isFit_106 2 rfl e2_106.symm _ hml (by decide) rfl ?_
                    refine pw_goto 2 h d_X8_isFit_109 (by decide) ?_
                    refine PW.perm [1, 2, 0] rfl ?_
                    exact ih (i + 1) _ _ _ (by omega) (by omega) (k_up e2_106 ev) fM4 fL5 (fitU_y hfit (fun _ => hend.1 c_101))
                  · skip
                    refine pw_iconst (x := 0) h d_X8_isFit_104 (by decide) ?_
                    refine pw_iret h hr d_X8_isFit_105 (by decide) (by decide) (by decide) ?_
                    exact ⟨rfl, rfl, fM4, fL5, false, rfl, ⟨fun q9 => absurd q9 (by decide), fun q9 => absurd q9 (fitU_n hst hsv (hend.2 c_101))⟩⟩
                · skip
                  have hy0 : 0 ≤ y := Int32.not_lt.mp c_41
                  have eyx : y = x4 := by
                    rcases hwb with q9 | q9
                    · exact q9.2.1
                    · exact absurd hy0 q9.1
                  obtain ⟨c, hc, ec, hS, hlo⟩ := hx1 (by rw [← eyx]; exact hy0)
                  have h2 := fir_2 (show aN A ≤ 7 by omega) hc
                  have hsel := sel_v (show aN A ≤ 7 by omega) hc.1 (eyx.trans ec)
                  have hlo5 := loF_U (frU_F g5) hlo
                  refine pw_aload_n h 0 d_X8_isFit_44 rfl ?_
                  refine pw_iload_n h 3 d_X8_isFit_45 rfl ?_
                  refine pw_iload h 4 d_X8_isFit_46 rfl ?_
                  refine pw_callV (As := [.int _, .int _]) h d_X8_isFit_48 mf_X8_loadOf mi_X8_loadOf ml_RX8_301 ⟨by decide, by decide, by decide⟩ (by assumption) rfl rfl (Nat.le_of_ble_eq_true rfl) trivial (c_X8_loadOf hM0 (okA_S a hst) h2 hS hlo5 hsel eb hbn) ?_
                  intro ret6 sh6 I6 L6 R6_ hp6
                  obtain ⟨e0, e1, eR, eI, f6, r6⟩ := hp6
                  subst e0
                  have e1 := e1.symm
                  have eR := eR.symm
                  have eI := eI.symm
                  subst e1
                  subst eR
                  subst eI
                  refine ⟨rfl, ?_⟩
                  have hden := qld_den (okA_S a hst) h2 hS hbn
                  refine pw_aload_n h 0 d_X8_isFit_51 rfl ?_
                  refine pw_getL 8 h d_X8_isFit_52 fd_RX8_202 (by assumption) rfl ?_
                  refine pw_aload_n h 0 d_X8_isFit_55 rfl ?_
                  refine pw_getI 8 h d_X8_isFit_56 fd_RX8_326 (by assumption) rfl ?_
                  refine pw_i2l h d_X8_isFit_59 ?_
                  refine pw_aload_n h 0 d_X8_isFit_60 rfl ?_
                  refine pw_getL 8 h d_X8_isFit_61 fd_RX8_44 (by assumption) rfl ?_
                  refine pw_lmul h d_X8_isFit_64 ?_
                  refine pw_lcmp h d_X8_isFit_65 ?_
                  refine pw_if_lt 87 h d_X8_isFit_66 (by decide) (fun c_66 => ?_) (fun c_66 => ?_)
                  · skip
                    have c66 : ¬ ((I4 m 37).toInt64 * L6 m 18).toInt ≤ (L6 m 17).toInt := by rw [lc_lt] at c_66; omega
                    refine pw_bipush (x := (-4)) h d_X8_isFit_87 (by decide) ?_
                    refine pw_goto 93 h d_X8_isFit_89 (by decide) ?_
                    refine pw_nmI (fun v3_93 e3_93 => ?_)
                    refine pw_istore_n (lv' := [(3, .int v3_93), (0, .ref m), (1, .int v), (2, .int u), (4, .int t)]) h d_X8_isFit_93 rfl _ hml (by decide) rfl ?_
                    obtain ⟨v4_94, e4_94⟩ : ∃ z : Int32, z = t + (1) := ⟨_, rfl⟩
                    refine pw_iinc (lv' := [(4, .int v4_94), (3, .int v3_93), (0, .ref m), (1, .int v), (2, .int u)]) v4_94 h d_X8_isFit_94 4 rfl e4_94.symm _ hml (by decide) rfl ?_
                    refine pw_goto 31 h d_X8_isFit_97 (by decide) ?_
                    refine PW.perm [2, 3, 4, 1, 0] rfl ?_
                    exact ihb (b + 1) _ _ _ (by omega) (by omega) (k_up e4_94 eb) (frML_t fL5 (frML_F f6)) (frF_t g5 f6) (wbI_f hbn hc (fun q9 => c66 ((bd_cmp r6 hden hlh5.1 hlh5.2.2.1 hlh5.2.2.2.1).1.mpr q9.1)) e3_93)
                  · skip
                    have c66 : ((I4 m 37).toInt64 * L6 m 18).toInt ≤ (L6 m 17).toInt := by rw [lc_lt] at c_66; omega
                    refine pw_aload_n h 0 d_X8_isFit_69 rfl ?_
                    refine pw_getL 8 h d_X8_isFit_70 fd_RX8_202 (by assumption) rfl ?_
                    refine pw_aload_n h 0 d_X8_isFit_73 rfl ?_
                    refine pw_getI 8 h d_X8_isFit_74 fd_RX8_85 (by assumption) rfl ?_
                    refine pw_i2l h d_X8_isFit_77 ?_
                    refine pw_aload_n h 0 d_X8_isFit_78 rfl ?_
                    refine pw_getL 8 h d_X8_isFit_79 fd_RX8_44 (by assumption) rfl ?_
                    refine pw_lmul h d_X8_isFit_82 ?_
                    refine pw_lcmp h d_X8_isFit_83 ?_
                    refine pw_if_le 92 h d_X8_isFit_84 (by decide) (fun c_84 => ?_) (fun c_84 => ?_)
                    · skip
                      have c84 : (L6 m 17).toInt ≤ ((I4 m 38).toInt64 * L6 m 18).toInt := lc_le.mp c_84
                      refine pw_iload_n h 3 d_X8_isFit_92 rfl ?_
                      refine pw_nmI (fun v3_93 e3_93 => ?_)
                      refine pw_istore_n (lv' := [(3, .int v3_93), (0, .ref m), (1, .int v), (2, .int u), (4, .int t)]) h d_X8_isFit_93 rfl _ hml (by decide) rfl ?_
                      obtain ⟨v4_94, e4_94⟩ : ∃ z : Int32, z = t + (1) := ⟨_, rfl⟩
                      refine pw_iinc (lv' := [(4, .int v4_94), (3, .int v3_93), (0, .ref m), (1, .int v), (2, .int u)]) v4_94 h d_X8_isFit_94 4 rfl e4_94.symm _ hml (by decide) rfl ?_
                      refine pw_goto 31 h d_X8_isFit_97 (by decide) ?_
                      refine PW.perm [2, 3, 4, 1, 0] rfl ?_
                      exact ihb (b + 1) _ _ _ (by omega) (by omega) (k_up e4_94 eb) (frML_t fL5 (frML_F f6)) (frF_t g5 f6) (wbI_s hwb hy0 hc ⟨(bd_cmp r6 hden hlh5.1 hlh5.2.2.1 hlh5.2.2.2.1).1.mp c66, (bd_cmp r6 hden hlh5.2.1 hlh5.2.2.2.2.1 hlh5.2.2.2.2.2).2.mp c84⟩ e3_93)
                    · skip
                      have c84 : ¬ (L6 m 17).toInt ≤ ((I4 m 38).toInt64 * L6 m 18).toInt := fun q9 => c_84 (lc_le.mpr q9)
                      refine pw_bipush (x := (-4)) h d_X8_isFit_87 (by decide) ?_
                      refine pw_goto 93 h d_X8_isFit_89 (by decide) ?_
                      refine pw_nmI (fun v3_93 e3_93 => ?_)
                      refine pw_istore_n (lv' := [(3, .int v3_93), (0, .ref m), (1, .int v), (2, .int u), (4, .int t)]) h d_X8_isFit_93 rfl _ hml (by decide) rfl ?_
                      obtain ⟨v4_94, e4_94⟩ : ∃ z : Int32, z = t + (1) := ⟨_, rfl⟩
                      refine pw_iinc (lv' := [(4, .int v4_94), (3, .int v3_93), (0, .ref m), (1, .int v), (2, .int u)]) v4_94 h d_X8_isFit_94 4 rfl e4_94.symm _ hml (by decide) rfl ?_
                      refine pw_goto 31 h d_X8_isFit_97 (by decide) ?_
                      refine PW.perm [2, 3, 4, 1, 0] rfl ?_
                      exact ihb (b + 1) _ _ _ (by omega) (by omega) (k_up e4_94 eb) (frML_t fL5 (frML_F f6)) (frF_t g5 f6) (wbI_f hbn hc (fun q9 => c84 ((bd_cmp r6 hden hlh5.2.1 hlh5.2.2.2.2.1 hlh5.2.2.2.2.2).2.mpr q9.2)) e3_93)
          refine PW.perm [2, 3, 4, 1, 0] rfl ?_
          exact cut_31 (aN A + 1) 0 _ _ _ (by omega) (Nat.zero_le _) e4_29 fL4 frF_0 (wbI_0 e3_27 hx2)
  refine PW.perm [1, 2, 0] rfl ?_
  exact cut_2 5 0 _ I L (by omega) (Nat.zero_le _) e2_1 frMI_0 frML_0 (fun s hs => absurd hs (Nat.not_lt_zero _))

set_option maxHeartbeats 4000000 in
set_option maxRecDepth 100000 in
theorem c_X8_fits {sh : Sh} {I : IM} {L : LM} {R : RM} {m : Nat} {A : LA} (hM : ModF sh R m) (hm : MSm I m A) (a : okA A) {lo hi : Int} (hlh : LHm I m lo hi) (v : Int32) : PMet M_X8_fits [.ref m, .int v] sh I L R (obM sh I L R m (fun ret => ifA (isW v 1 15) (∃ bb : Bool, ret = some (.int (bI bb)) ∧ (bb = true ↔ fitP A lo hi (selM v) 4)) (ret = some (.int (-1))))) := by
  refine PMet.of mf_X8_fits (Nat.le_of_ble_eq_true rfl) ?_
  intro X h hr hml
  have hml : (xc X).maxLocals = 2 := hml
  have h : PXok X RX8 cX8_fits 10 0 0 := h
  have hr : PXr X (some .int) "fits" _ 0 0 := hr
  have hM0 := hM
  obtain ⟨f0, f1, f2, f3, f4, f5, f6, f7, f8, f9, f10, f11, f12, f13, f14, f15, f16, f17, f18, f19, f20, f21, f22, f23, f24, f25, f26, f27, g1, g2, g3, g4, g5, g6, g7, g8, g9, g10, g11, g12, g13, g14, g15, g16, g17, g18, g19, g20, g21, g22, g23, g24, g25, g26, g27⟩ := hM
  have hn := hm.1
  have h6 := a.1
  show PW X 0 [(0, .ref m), (1, .int v)] [] sh I L R 0 0
  refine pw_iload_n h 1 d_X8_fits_0 rfl ?_
  refine pw_i2l h d_X8_fits_1 ?_
  refine pw_lconst (x := 1) h d_X8_fits_2 (by decide) ?_
  refine pw_ldc2 h d_X8_fits_3 ck_RX8_329 ?_
  refine pw_callS (As := [.long _, .long _, .long _]) h d_X8_fits_6 mf_X8_in st_yX8_in ml_RX8_105 ⟨by decide, by decide, by decide⟩ rfl rfl (Nat.le_of_ble_eq_true rfl) (c_X8_inW (a := 1) (b := 15) rfl rfl) ?_
  refine PKk.ret ?_
  refine pw_if_eq 28 h d_X8_fits_9 (by decide) (fun c_9 => ?_) (fun c_9 => ?_)
  · skip
    rw [bI_1] at c_9
    refine pw_iconst (x := (-1)) h d_X8_fits_28 (by decide) ?_
    refine pw_iret h hr d_X8_fits_29 rfl (by decide) (by decide) ?_
    exact ⟨rfl, rfl, frMI_0, frML_0, ifA_f c_9 rfl⟩
  · skip
    rw [bI_1, Bool.not_eq_false] at c_9
    refine pw_aload_n h 0 d_X8_fits_12 rfl ?_
    refine pw_iload_n h 1 d_X8_fits_13 rfl ?_
    refine pw_callV (As := [.int _]) h d_X8_fits_14 mf_X8_isFit mi_X8_isFit ml_RX8_331 ⟨by decide, by decide, by decide⟩ (by assumption) rfl rfl (Nat.le_of_ble_eq_true rfl) trivial (c_X8_isFit hM0 hm a hlh v) ?_
    intro ret1 sh1 I1 L1 R1 hp1
    obtain ⟨e1, eR, f1, g1, bb, ebb, hbb⟩ := hp1
    have e1 := e1.symm
    have eR := eR.symm
    subst e1
    subst eR
    subst ebb
    refine ⟨rfl, ?_⟩
    refine pw_if_eq 24 h d_X8_fits_17 (by decide) (fun c_17 => ?_) (fun c_17 => ?_)
    · skip
      rw [bI_1] at c_17
      refine pw_iconst (x := 0) h d_X8_fits_24 (by decide) ?_
      refine pw_goto 29 h d_X8_fits_25 (by decide) ?_
      refine pw_iret h hr d_X8_fits_29 rfl (by decide) (by decide) ?_
      exact ⟨rfl, rfl, f1, g1, ifA_t c_9 ⟨bb, by rw [c_17]; rfl, hbb⟩⟩
    · skip
      rw [bI_1, Bool.not_eq_false] at c_17
      refine pw_iconst (x := 1) h d_X8_fits_20 (by decide) ?_
      refine pw_goto 29 h d_X8_fits_21 (by decide) ?_
      refine pw_iret h hr d_X8_fits_29 rfl (by decide) (by decide) ?_
      exact ⟨rfl, rfl, f1, g1, ifA_t c_9 ⟨bb, by rw [c_17]; rfl, hbb⟩⟩
