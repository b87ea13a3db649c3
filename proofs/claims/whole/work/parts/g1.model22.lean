set_option maxHeartbeats 4000000 in
set_option maxRecDepth 100000 in
theorem c_X8_through {sh : Sh} {I : IM} {L : LM} {R : RM} {m : Nat} {A : LA} (hM : ModF sh R m) (hm : MSm I m A) (a : okA A) (v b w : Int32) : PMet M_X8_through [.ref m, .int v, .int b, .int w] sh I L R (obM sh I L R m (fun ret => ifA (isW v 0 3 && isBn (aN A) b && isW w 0 1) (ifA (decide (2 ≤ cntS (gsB A 0 13) (aN A))) (ret = some (.long (ansL (gldA A v.toNatClampNeg 0 13 b.toNatClampNeg) w))) (ret = refL (-2))) (ret = refL (-1)))) := by
  refine PMet.of mf_X8_through (Nat.le_of_ble_eq_true rfl) ?_
  intro X h hr hml
  have hml : (xc X).maxLocals = 4 := hml
  have h : PXok X RX8 cX8_through 6 0 0 := h
  have hr : PXr X (some .long) "through" _ 0 0 := hr
  have hM0 := hM
  obtain ⟨f0, f1, f2, f3, f4, f5, f6, f7, f8, f9, f10, f11, f12, f13, f14, f15, f16, f17, f18, f19, f20, f21, f22, f23, f24, f25, f26, f27, g1, g2, g3, g4, g5, g6, g7, g8, g9, g10, g11, g12, g13, g14, g15, g16, g17, g18, g19, g20, g21, g22, g23, g24, g25, g26, g27⟩ := hM
  have hn := hm.1
  have h6 := a.1
  have hga := gs_all a (aN A) (Nat.le_refl _)
  show PW X 0 [(0, .ref m), (1, .int v), (2, .int b), (3, .int w)] [] sh I L R 0 0
  refine pw_iload_n h 1 d_X8_through_0 rfl ?_
  refine pw_callS (As := [.int _]) h d_X8_through_1 mf_X8_isState st_yX8_isState ml_RX8_135 ⟨by decide, by decide, by decide⟩ rfl rfl (Nat.le_of_ble_eq_true rfl) c_X8_isState ?_
  refine PKk.ret ?_
  refine pw_if_eq 25 h d_X8_through_4 (by decide) (fun c_4 => ?_) (fun c_4 => ?_)
  · skip
    rw [bI_1] at c_4
    refine pw_ldc2 h d_X8_through_25 ck_RX8_290 ?_
    refine pw_lret h hr d_X8_through_28 (by decide) (by decide) ?_
    refine ⟨rfl, rfl, frMI_0, frML_0, ifA_f ?_ rfl⟩
    first | (simp only [isBn, c_4, Bool.false_and]; done) | (simp only [isBn, c_4, c_12, Bool.false_and, Bool.and_false]; done) | (simp only [isBn, c_4, c_12, c_22, Bool.and_false]; done)
  · skip
    rw [bI_1, Bool.not_eq_false] at c_4
    refine pw_aload_n h 0 d_X8_through_7 rfl ?_
    refine pw_iload_n h 2 d_X8_through_8 rfl ?_
    refine pw_callV (As := [.int _]) h d_X8_through_9 mf_X8_isBearing mi_X8_isBearing ml_RX8_128 ⟨by decide, by decide, by decide⟩ (by assumption) rfl rfl (Nat.le_of_ble_eq_true rfl) trivial (c_X8_isBearing hM0 hn h6) ?_
    refine PKk.ret ?_
    refine pw_if_eq 25 h d_X8_through_12 (by decide) (fun c_12 => ?_) (fun c_12 => ?_)
    · skip
      rw [bI_1] at c_12
      refine pw_ldc2 h d_X8_through_25 ck_RX8_290 ?_
      refine pw_lret h hr d_X8_through_28 (by decide) (by decide) ?_
      refine ⟨rfl, rfl, frMI_0, frML_0, ifA_f ?_ rfl⟩
      first | (simp only [isBn, c_4, Bool.false_and]; done) | (simp only [isBn, c_4, c_12, Bool.false_and, Bool.and_false]; done) | (simp only [isBn, c_4, c_12, c_22, Bool.and_false]; done)
    · skip
      rw [bI_1, Bool.not_eq_false] at c_12
      refine pw_iload_n h 3 d_X8_through_15 rfl ?_
      refine pw_i2l h d_X8_through_16 ?_
      refine pw_lconst (x := 0) h d_X8_through_17 (by decide) ?_
      refine pw_lconst (x := 1) h d_X8_through_18 (by decide) ?_
      refine pw_callS (As := [.long _, .long _, .long _]) h d_X8_through_19 mf_X8_in st_yX8_in ml_RX8_105 ⟨by decide, by decide, by decide⟩ rfl rfl (Nat.le_of_ble_eq_true rfl) (c_X8_inW (a := 0) (b := 1) rfl rfl) ?_
      refine PKk.ret ?_
      refine pw_if_ne 29 h d_X8_through_22 (by decide) (fun c_22 => ?_) (fun c_22 => ?_)
      · skip
        rw [bI_1, Bool.not_eq_false] at c_22
        have hx0 := isW_ix (N := 4) c_4 rfl (by decide)
        have hst := px_ix_lt hx0
        have est : v = nI v.toNatClampNeg := px_ix_eq hx0
        have hbx := isBn_ix (N := 7) c_12 (by omega)
        have hbl := px_ix_lt (isBn_ix (n := aN A) (N := aN A) c_12 (Nat.le_refl _))
        refine pw_aload_n h 0 d_X8_through_29 rfl ?_
        refine pw_getI 8 h d_X8_through_30 fd_RX8_109 (by assumption) rfl ?_
        refine pw_iconst (x := 2) h d_X8_through_33 (by decide) ?_
        refine pw_icmp_ge 41 h d_X8_through_34 (by decide) (fun c_34 => ?_) (fun c_34 => ?_)
        · skip
          have h2n : 2 ≤ aN A := k_ge hn (n := 2) rfl (by omega) (by decide) c_34
          have h2g : 2 ≤ cntS (gsB A 0 13) (aN A) := by omega
          have hB := okS_B (okA_C a hst 0 13) h2g
          refine pw_aload_n h 0 d_X8_through_41 rfl ?_
          refine pw_iload_n h 1 d_X8_through_42 rfl ?_
          refine pw_iconst (x := (-1)) h d_X8_through_43 (by decide) ?_
          refine pw_iconst (x := 0) h d_X8_through_44 (by decide) ?_
          refine pw_callV (As := [.int _, .int _, .int _]) h d_X8_through_45 mf_X8_stands mi_X8_stands ml_RX8_292 ⟨by decide, by decide, by decide⟩ (by assumption) rfl rfl (Nat.le_of_ble_eq_true rfl) trivial (c_X8_stands hM0 hm a hst est (std_A a _ _ (-4)) (by decide)) ?_
          intro ret1 sh1 I1 L1 R1_ hp1
          obtain ⟨e0, e1, eR, eL, fs1, hc1, hj1⟩ := hp1
          subst e0
          have e1 := e1.symm
          have eR := eR.symm
          have eL := eL.symm
          subst e1
          subst eR
          subst eL
          refine ⟨rfl, ?_⟩
          have fM1 : frMI m I I1 := frMI_S fs1
          have hm1 := MSm_MI hm fM1
          refine pw_aload_n h 0 d_X8_through_48 rfl ?_
          refine pw_iconst (x := 1) h d_X8_through_49 (by decide) ?_
          refine pw_aload_n h 0 d_X8_through_50 rfl ?_
          refine pw_getI 8 h d_X8_through_51 fd_RX8_109 (by assumption) rfl ?_
          refine pw_ishl h d_X8_through_54 ?_
          refine pw_iconst (x := 1) h d_X8_through_55 (by decide) ?_
          refine pw_isub h d_X8_through_56 ?_
          refine pw_callV (As := [.int _]) h d_X8_through_57 mf_X8_chooses mi_X8_chooses ml_RX8_270 ⟨by decide, by decide, by decide⟩ (by assumption) rfl rfl (Nat.le_of_ble_eq_true rfl) trivial (c_X8_chooses hM0 hc1.1 (by omega) _) ?_
          intro ret2 sh2 I2 L2 R2_ hp2
          obtain ⟨e0, e1, eI, eL, eR⟩ := hp2
          subst e0
          have e1 := e1.symm
          have eR := eR.symm
          have eL := eL.symm
          subst e1
          subst eR
          subst eL
          refine ⟨rfl, ?_⟩
          have hS2 : SolM I2 m (cntS (gsB A 0 13) (aN A) - 2) (lyN (gsB A 0 13) (aQ A) (aN A)) (lyQ (gsB A 0 13) (hgt A v.toNatClampNeg) (aN A)) (wCut A 0 13) (stf A) := by rw [eI]; exact ch_sol2 (CnM_w hc1 wCut_13) (fun k hk => (all_code hm1.1 (by omega) k hk).trans (gs_true a k hk).symm) h2g
          have fM2 : frMI m I I2 := frMI_t fM1 (by rw [eI]; exact frMI_C frCh_ch)
          have hm2 := MSm_MI hm fM2
          clear eI
          refine pw_aload_n h 0 d_X8_through_60 rfl ?_
          refine pw_callV (As := []) h d_X8_through_61 mf_X8_goes mi_X8_goes ml_RX8_274 ⟨by decide, by decide, by decide⟩ (by assumption) rfl rfl (Nat.le_of_ble_eq_true rfl) trivial (c_X8_goes hM0 hB hS2) ?_
          intro ret3 sh3 I3 L3 R3_ hp3
          obtain ⟨e0, e1, eR, eI, hgo⟩ := hp3
          subst e0
          have e1 := e1.symm
          have eR := eR.symm
          have eI := eI.symm
          subst e1
          subst eR
          subst eI
          refine ⟨rfl, ?_⟩
          have fL3 : frML m L L3 := frML_G (frG_go hgo.1)
          have hR := hgo.2.2.2 b.toNatClampNeg (by omega)
          have hk := mk_lo (L := L3) hB hS2 (show b.toNatClampNeg < cntS (gsB A 0 13) (aN A) - 2 + 2 by omega) hR
          refine pw_aload_n h 0 d_X8_through_64 rfl ?_
          refine pw_aload_n h 0 d_X8_through_65 rfl ?_
          refine pw_getR (j := (m + 14)) 8 h d_X8_through_66 fd_RX8_57 (by assumption) rfl (by assumption) ?_
          refine pw_iload_n h 2 d_X8_through_69 rfl ?_
          refine pw_lald h d_X8_through_70 (by assumption) (by assumption) ?_
          refine pw_aload_n h 0 d_X8_through_71 rfl ?_
          refine pw_getR (j := (m + 15)) 8 h d_X8_through_72 fd_RX8_61 (by assumption) rfl (by assumption) ?_
          refine pw_iload_n h 2 d_X8_through_75 rfl ?_
          refine pw_lald h d_X8_through_76 (by assumption) (by assumption) ?_
          refine pw_callV (As := [.long _, .long _]) h d_X8_through_77 mf_X8_makes mi_X8_makes ml_RX8_205 ⟨by decide, by decide, by decide⟩ (by assumption) rfl rfl (Nat.le_of_ble_eq_true rfl) trivial (c_X8_makes hM0 _ _ hk.1) ?_
          intro ret4 sh4 I4 L4 R4_ hp4
          obtain ⟨e0, e1, eI, eL, eR⟩ := hp4
          subst e0
          have e1 := e1.symm
          have eR := eR.symm
          have eI := eI.symm
          subst e1
          subst eR
          subst eI
          refine ⟨rfl, ?_⟩
          have fL4 : frML m L L4 := frML_t fL3 (by rw [eL]; exact frML_F mkL_fr)
          have r4 : RF (L4 m 17) (L4 m 18) (gldA A v.toNatClampNeg 0 13 b.toNatClampNeg) := by rw [eL]; exact hk.2
          clear eL
          refine pw_aload_n h 0 d_X8_through_80 rfl ?_
          refine pw_iload_n h 3 d_X8_through_81 rfl ?_
          refine pw_callV (As := [.int _]) h d_X8_through_82 mf_X8_part mi_X8_part ml_RX8_305 ⟨by decide, by decide, by decide⟩ (by assumption) rfl rfl (Nat.le_of_ble_eq_true rfl) trivial (c_X8_part hM0 _) ?_
          refine PKk.ret ?_
          refine pw_lret h hr d_X8_through_85 (by decide) (by decide) ?_
          exact ⟨rfl, rfl, fM2, fL4, ifA_t (by simp only [isBn, c_4, c_12, c_22, Bool.and_self]) (ifA_t (decide_eq_true h2g) (congrArg (fun z => some (Value.long z)) (RF_ans r4 w)))⟩
        · skip
          have h2n : aN A < 2 := k_lt hn (n := 2) rfl (by omega) (by decide) c_34
          refine pw_ldc2 h d_X8_through_37 ck_RX8_299 ?_
          refine pw_lret h hr d_X8_through_40 (by decide) (by decide) ?_
          exact ⟨rfl, rfl, frMI_0, frML_0, ifA_t (by simp only [isBn, c_4, c_12, c_22, Bool.and_self]) (ifA_f (decide_eq_false (by omega)) rfl)⟩
      · skip
        rw [bI_1] at c_22
        refine pw_ldc2 h d_X8_through_25 ck_RX8_290 ?_
        refine pw_lret h hr d_X8_through_28 (by decide) (by decide) ?_
        refine ⟨rfl, rfl, frMI_0, frML_0, ifA_f ?_ rfl⟩
        first | (simp only [isBn, c_4, Bool.false_and]; done) | (simp only [isBn, c_4, c_12, Bool.false_and, Bool.and_false]; done) | (simp only [isBn, c_4, c_12, c_22, Bool.and_false]; done)

set_option maxHeartbeats 4000000 in
set_option maxRecDepth 100000 in
theorem c_X8_endOf {sh : Sh} {I : IM} {L : LM} {R : RM} {m n D f x : Nat} {pl : Nat → Nat} {hg w : Nat → Rat} {F H : Rat} (hM : ModF sh R m) (hB : okB pl hg w F H n) (hS : SolM I m n pl hg w F) (hlo : loF L m n pl hg w F) (hDQ : DQ (spR pl n) n = (D : Rat)) (hD : 0 < D) (hDl : D ≤ 204472320) (hF : F = (f : Rat)) (hf : (I m 7).toInt = (f : Int)) (h1 : 1 ≤ f) (h2 : f ≤ 20) {p : Int32} (ep : p = nI x) (hx : x ≤ 12) (u : Int32) : PMet M_X8_endOf [.ref m, .int p, .int u] sh I L R (eofP sh I L R m (D * (6 * f) * spP pl n 0) (eoP pl hg w F n x u)) := by
  refine PMet.of mf_X8_endOf (Nat.le_of_ble_eq_true rfl) ?_
  intro X h hr hml
  have hml : (xc X).maxLocals = 3 := hml
  have h : PXok X RX8 cX8_endOf 7 0 0 := h
  have hr : PXr X none "endOf" _ 0 0 := hr
  have hM0 := hM
  obtain ⟨f0, f1, f2, f3, f4, f5, f6, f7, f8, f9, f10, f11, f12, f13, f14, f15, f16, f17, f18, f19, f20, f21, f22, f23, f24, f25, f26, f27, g1, g2, g3, g4, g5, g6, g7, g8, g9, g10, g11, g12, g13, g14, g15, g16, g17, g18, g19, g20, g21, g22, g23, g24, g25, g26, g27⟩ := hM
  show PW X 0 [(0, .ref m), (1, .int p), (2, .int u)] [] sh I L R 0 0
  refine pw_iload_n h 2 d_X8_endOf_0 rfl ?_
  refine pw_if_ne 12 h d_X8_endOf_1 (by decide) (fun c_1 => ?_) (fun c_1 => ?_)
  · skip
    refine pw_aload_n h 0 d_X8_endOf_12 rfl ?_
    refine pw_iload_n h 1 d_X8_endOf_13 rfl ?_
    refine pw_callV (As := [.int _]) h d_X8_endOf_14 mf_X8_slope mi_X8_slope ml_RX8_308 ⟨by decide, by decide, by decide⟩ (by assumption) rfl rfl (Nat.le_of_ble_eq_true rfl) trivial (c_X8_slope hM0 hB hS hlo hDQ hD hDl hf h1 h2 ep hx) ?_
    intro ret1 sh1 I1 L1 R1_ hp1
    obtain ⟨e0, e1, eR, eI, f1, p1⟩ := hp1
    subst e0
    have e1 := e1.symm
    have eR := eR.symm
    have eI := eI.symm
    subst e1
    subst eR
    subst eI
    refine ⟨rfl, ?_⟩
    have hk := eo_mk hB hDQ hD hF h1 h2 hx c_1 p1
    refine pw_aload_n h 0 d_X8_endOf_17 rfl ?_
    refine pw_ldc2 h d_X8_endOf_18 ck_RX8_311 ?_
    refine pw_aload_n h 0 d_X8_endOf_21 rfl ?_
    refine pw_getL 8 h d_X8_endOf_22 fd_RX8_202 (by assumption) rfl ?_
    refine pw_lmul h d_X8_endOf_25 ?_
    refine pw_aload_n h 0 d_X8_endOf_26 rfl ?_
    refine pw_getL 8 h d_X8_endOf_27 fd_RX8_44 (by assumption) rfl ?_
    refine pw_callV (As := [.long _, .long _]) h d_X8_endOf_30 mf_X8_makes mi_X8_makes ml_RX8_205 ⟨by decide, by decide, by decide⟩ (by assumption) rfl rfl (Nat.le_of_ble_eq_true rfl) trivial (c_X8_makes hM0 _ _ hk.1) ?_
    intro ret2 sh2 I2 L2 R2_ hp2
    obtain ⟨e0, e1, eI, eL, eR⟩ := hp2
    subst e0
    have e1 := e1.symm
    have eR := eR.symm
    have eI := eI.symm
    subst e1
    subst eR
    subst eI
    refine ⟨rfl, ?_⟩
    have ffin : frU m L L2 := frU_t f1 (by rw [eL]; exact frU_F mkL_fr)
    have hfin : PF L2 m (D * (6 * f) * spP pl n 0) (eoP pl hg w F n x u) := by rw [eL]; exact hk.2
    clear eL
    refine pw_vret h hr d_X8_endOf_33 (by decide) (by decide) ?_
    exact ⟨rfl, rfl, rfl, rfl, ffin, hfin⟩
  · skip
    refine pw_aload_n h 0 d_X8_endOf_4 rfl ?_
    refine pw_iload_n h 1 d_X8_endOf_5 rfl ?_
    refine pw_callV (As := [.int _]) h d_X8_endOf_6 mf_X8_height mi_X8_height ml_RX8_277 ⟨by decide, by decide, by decide⟩ (by assumption) rfl rfl (Nat.le_of_ble_eq_true rfl) trivial (c_X8_height hM0 hB hS hlo hDQ hD hDl hf h1 h2 ep hx) ?_
    intro ret1 sh1 I1 L1 R1_ hp1
    obtain ⟨e0, e1, eR, eI, f1, p1⟩ := hp1
    subst e0
    have e1 := e1.symm
    have eR := eR.symm
    have eI := eI.symm
    subst e1
    subst eR
    subst eI
    refine ⟨rfl, ?_⟩
    have hfin := eo_hei hB hF h1 c_1 p1
    have ffin := f1
    refine pw_goto 33 h d_X8_endOf_9 (by decide) ?_
    refine pw_vret h hr d_X8_endOf_33 (by decide) (by decide) ?_
    exact ⟨rfl, rfl, rfl, rfl, ffin, hfin⟩

set_option maxHeartbeats 4000000 in
set_option maxRecDepth 100000 in
theorem c_X8_jack {sh : Sh} {I : IM} {L : LM} {R : RM} {m : Nat} {A : LA} (hM : ModF sh R m) (hm : MSm I m A) (a : okA A) (s p v w : Int32) : PMet M_X8_jack [.ref m, .int s, .int p, .int v, .int w] sh I L R (obM sh I L R m (fun ret => ifA (isW s 0 3 && isW p 0 12 && isW w 0 1 && isW v (-90) 90 && (srch (I (m + 1)) p (aN A)).isNone) (rsJ A s.toNatClampNeg p.toNatClampNeg v.toInt (fun c => ret = some (.long (ansL (qJk A s.toNatClampNeg p.toNatClampNeg v.toInt c) w))) (ret = refL (-2))) (ret = refL (-1)))) := by
  refine PMet.of mf_X8_jack (Nat.le_of_ble_eq_true rfl) ?_
  intro X h hr hml
  have hml : (xc X).maxLocals = 6 := hml
  have h : PXok X RX8 cX8_jack 9 0 0 := h
  have hr : PXr X (some .long) "jack" _ 0 0 := hr
  have hM0 := hM
  obtain ⟨f0, f1, f2, f3, f4, f5, f6, f7, f8, f9, f10, f11, f12, f13, f14, f15, f16, f17, f18, f19, f20, f21, f22, f23, f24, f25, f26, f27, g1, g2, g3, g4, g5, g6, g7, g8, g9, g10, g11, g12, g13, g14, g15, g16, g17, g18, g19, g20, g21, g22, g23, g24, g25, g26, g27⟩ := hM
  have hn := hm.1
  have h6 := a.1
  show PW X 0 [(0, .ref m), (1, .int s), (2, .int p), (3, .int v), (4, .int w)] [] sh I L R 0 0
  refine pw_iload_n h 1 d_X8_jack_0 rfl ?_
  refine pw_callS (As := [.int _]) h d_X8_jack_1 mf_X8_isState st_yX8_isState ml_RX8_135 ⟨by decide, by decide, by decide⟩ rfl rfl (Nat.le_of_ble_eq_true rfl) c_X8_isState ?_
  refine PKk.ret ?_
  refine pw_if_eq 47 h d_X8_jack_4 (by decide) (fun c_4 => ?_) (fun c_4 => ?_)
  · skip
    rw [bI_1] at c_4
    refine pw_ldc2 h d_X8_jack_47 ck_RX8_290 ?_
    refine pw_lret h hr d_X8_jack_50 (by decide) (by decide) ?_
    refine ⟨rfl, rfl, frMI_0, frML_0, ifA_f ?_ rfl⟩
    first | (simp only [c_4, Bool.false_and]; done) | (simp only [c_11, Bool.false_and, Bool.and_false]; done) | (simp only [hsn, Bool.and_false]; done) | (simp only [c_33, Bool.false_and, Bool.and_false]; done) | (simp only [c_44, Bool.false_and, Bool.and_false]; done)
  · skip
    rw [bI_1, Bool.not_eq_false] at c_4
    refine pw_iload_n h 2 d_X8_jack_7 rfl ?_
    refine pw_callS (As := [.int _]) h d_X8_jack_8 mf_X8_isPlace st_yX8_isPlace ml_RX8_112 ⟨by decide, by decide, by decide⟩ rfl rfl (Nat.le_of_ble_eq_true rfl) c_X8_isPlace ?_
    refine PKk.ret ?_
    refine pw_if_eq 47 h d_X8_jack_11 (by decide) (fun c_11 => ?_) (fun c_11 => ?_)
    · skip
      rw [bI_1] at c_11
      refine pw_ldc2 h d_X8_jack_47 ck_RX8_290 ?_
      refine pw_lret h hr d_X8_jack_50 (by decide) (by decide) ?_
      refine ⟨rfl, rfl, frMI_0, frML_0, ifA_f ?_ rfl⟩
      first | (simp only [c_4, Bool.false_and]; done) | (simp only [c_11, Bool.false_and, Bool.and_false]; done) | (simp only [hsn, Bool.and_false]; done) | (simp only [c_33, Bool.false_and, Bool.and_false]; done) | (simp only [c_44, Bool.false_and, Bool.and_false]; done)
    · skip
      rw [bI_1, Bool.not_eq_false] at c_11
      refine pw_aload_n h 0 d_X8_jack_14 rfl ?_
      refine pw_iload_n h 2 d_X8_jack_15 rfl ?_
      refine pw_callV (As := [.int _]) h d_X8_jack_16 mf_X8_bearingAt mi_X8_bearingAt ml_RX8_120 ⟨by decide, by decide, by decide⟩ (by assumption) rfl rfl (Nat.le_of_ble_eq_true rfl) trivial (c_X8_bearingAt hM0 hn h6 p) ?_
      refine PKk.ret ?_
      refine pw_if_ge 47 h d_X8_jack_19 (by decide) (fun c_19 => ?_) (fun c_19 => ?_)
      · skip
        have hsn : (srch (I (m + 1)) p (aN A)).isNone = false := by
          cases e9 : (srch (I (m + 1)) p (aN A)).isNone with
          | false => rfl
          | true => exact absurd ((srch_neg (show aN A < 2 ^ 31 by omega) (show ((-4 : Int32)).toInt < 0 by decide)).mpr e9) (Int32.not_lt.mpr c_19)
        refine pw_ldc2 h d_X8_jack_47 ck_RX8_290 ?_
        refine pw_lret h hr d_X8_jack_50 (by decide) (by decide) ?_
        refine ⟨rfl, rfl, frMI_0, frML_0, ifA_f ?_ rfl⟩
        first | (simp only [c_4, Bool.false_and]; done) | (simp only [c_11, Bool.false_and, Bool.and_false]; done) | (simp only [hsn, Bool.and_false]; done) | (simp only [c_33, Bool.false_and, Bool.and_false]; done) | (simp only [c_44, Bool.false_and, Bool.and_false]; done)
      · skip
        have hsn0 : (srch (I (m + 1)) p (aN A)).isNone = true := (srch_neg (show aN A < 2 ^ 31 by omega) (show ((-4 : Int32)).toInt < 0 by decide)).mp (Int32.not_le.mp c_19)
        refine pw_iload_n h 3 d_X8_jack_22 rfl ?_
        refine pw_i2l h d_X8_jack_23 ?_
        refine pw_ldc2 h d_X8_jack_24 ck_RX8_320 ?_
        refine pw_ldc2 h d_X8_jack_27 ck_RX8_322 ?_
        refine pw_callS (As := [.long _, .long _, .long _]) h d_X8_jack_30 mf_X8_in st_yX8_in ml_RX8_105 ⟨by decide, by decide, by decide⟩ rfl rfl (Nat.le_of_ble_eq_true rfl) (c_X8_inW (a := -90) (b := 90) rfl rfl) ?_
        refine PKk.ret ?_
        refine pw_if_eq 47 h d_X8_jack_33 (by decide) (fun c_33 => ?_) (fun c_33 => ?_)
        · skip
          rw [bI_1] at c_33
          refine pw_ldc2 h d_X8_jack_47 ck_RX8_290 ?_
          refine pw_lret h hr d_X8_jack_50 (by decide) (by decide) ?_
          refine ⟨rfl, rfl, frMI_0, frML_0, ifA_f ?_ rfl⟩
          first | (simp only [c_4, Bool.false_and]; done) | (simp only [c_11, Bool.false_and, Bool.and_false]; done) | (simp only [hsn, Bool.and_false]; done) | (simp only [c_33, Bool.false_and, Bool.and_false]; done) | (simp only [c_44, Bool.false_and, Bool.and_false]; done)
        · skip
          rw [bI_1, Bool.not_eq_false] at c_33
          refine pw_iload h 4 d_X8_jack_36 rfl ?_
          refine pw_i2l h d_X8_jack_38 ?_
          refine pw_lconst (x := 0) h d_X8_jack_39 (by decide) ?_
          refine pw_lconst (x := 1) h d_X8_jack_40 (by decide) ?_
          refine pw_callS (As := [.long _, .long _, .long _]) h d_X8_jack_41 mf_X8_in st_yX8_in ml_RX8_105 ⟨by decide, by decide, by decide⟩ rfl rfl (Nat.le_of_ble_eq_true rfl) (c_X8_inW (a := 0) (b := 1) rfl rfl) ?_
          refine PKk.ret ?_
          refine pw_if_ne 51 h d_X8_jack_44 (by decide) (fun c_44 => ?_) (fun c_44 => ?_)
          · skip
            rw [bI_1, Bool.not_eq_false] at c_44
            have hx0 := isW_ix (N := 4) c_4 rfl (by decide)
            have hst := px_ix_lt hx0
            have est : s = nI s.toNatClampNeg := px_ix_eq hx0
            have hpx := isW_ix (N := 13) c_11 rfl (by decide)
            have hp13 := px_ix_lt hpx
            have epx : p = nI p.toNatClampNeg := px_ix_eq hpx
            have hsn := hsn0
            rw [epx] at hsn
            have hno := (srch_Q hp13 hm.2.1 a.2.1.1).mp hsn
            have hv90 := k_isW (c := -90) (d := 90) c_33 rfl rfl
            have hjm : jkM A p.toNatClampNeg ≤ aN A := cntN_le _
            have hjo := jk_ok a hst hp13 hno hv90
            have hstd := std_J (st := s.toNatClampNeg) (v := v) a hno hp13
            rw [← epx] at hstd
            refine pw_aload_n h 0 d_X8_jack_51 rfl ?_
            refine pw_iload_n h 1 d_X8_jack_52 rfl ?_
            refine pw_iload_n h 2 d_X8_jack_53 rfl ?_
            refine pw_iload_n h 3 d_X8_jack_54 rfl ?_
            refine pw_callV (As := [.int _, .int _, .int _]) h d_X8_jack_55 mf_X8_stands mi_X8_stands ml_RX8_292 ⟨by decide, by decide, by decide⟩ (by assumption) rfl rfl (Nat.le_of_ble_eq_true rfl) trivial (c_X8_stands hM0 hm a hst est hstd (by omega)) ?_
            intro ret1 sh1 I1 L1 R1_ hp1
            obtain ⟨e0, e1, eR, eL, fs1, hc1, hj1⟩ := hp1
            subst e0
            have e1 := e1.symm
            have eR := eR.symm
            have eL := eL.symm
            subst e1
            subst eR
            subst eL
            refine ⟨rfl, ?_⟩
            have fM1 : frMI m I I1 := frMI_S fs1
            have hm1 := MSm_MI hm fM1
            refine pw_aload_n h 0 d_X8_jack_58 rfl ?_
            refine pw_callV (As := []) h d_X8_jack_59 mf_X8_rests mi_X8_rests ml_RX8_296 ⟨by decide, by decide, by decide⟩ (by assumption) rfl rfl (Nat.le_of_ble_eq_true rfl) trivial (c_X8_rests hM0 hc1 hjo) ?_
            intro ret2 sh2 I2 L2 R2 hp2
            obtain ⟨e1, eR, fr2, g2, hres2⟩ := hp2
            have e1 := e1.symm
            have eR := eR.symm
            subst e1
            subst eR
            obtain ⟨x2, ex2, hx1, hx2⟩ := rsm_or (by omega) hres2
            subst ex2
            have fM2 : frMI m I I2 := frMI_t fM1 (frMI_C fr2)
            have hm2 := MSm_MI hm fM2
            have fL2 : frML m L L2 := frML_G g2
            refine ⟨rfl, ?_⟩
            refine pw_nmI (fun v5_62 e5_62 => ?_)
            refine pw_istore (lv' := [(5, .int v5_62), (0, .ref m), (1, .int s), (2, .int p), (3, .int v), (4, .int w)]) h d_X8_jack_62 _ hml (by decide) rfl ?_
            refine pw_iload h 0 d_X8_jack_64 rfl ?_
            refine pw_if_ge 73 h d_X8_jack_66 (by decide) (fun c_66 => ?_) (fun c_66 => ?_)
            · skip
              rw [e5_62] at c_66
              obtain ⟨c, hc, ec, hS, hlo⟩ := hx1 c_66
              have h2 := fir_2 (show aN A + 1 ≤ 7 by omega) hc
              have hsel := sel_v (show aN A + 1 ≤ 7 by omega) hc.1 (e5_62.trans ec)
              have ej : I2 m 36 = nI (jkM A p.toNatClampNeg) := by rw [fr2 m 36 (by omega) (by omega) (by omega)]; exact hj1 p.toNatClampNeg hp13 (srch_hit hm hno) epx.symm
              refine pw_aload_n h 1 d_X8_jack_73 rfl ?_
              refine pw_iload h 0 d_X8_jack_74 rfl ?_
              refine pw_aload_n h 1 d_X8_jack_76 rfl ?_
              refine pw_getI 8 h d_X8_jack_77 fd_RX8_267 (by assumption) rfl ?_
              refine pw_callV (As := [.int _, .int _]) h d_X8_jack_80 mf_X8_loadOf mi_X8_loadOf ml_RX8_301 ⟨by decide, by decide, by decide⟩ (by assumption) rfl rfl (Nat.le_of_ble_eq_true rfl) trivial (c_X8_loadOf hM0 hjo h2 hS hlo hsel ej (show (jkM A p.toNatClampNeg) < aN A + 1 by omega)) ?_
              intro ret3 sh3 I3 L3 R3_ hp3
              obtain ⟨e0, e1, eR, eI, f3, r3⟩ := hp3
              subst e0
              have e1 := e1.symm
              have eR := eR.symm
              have eI := eI.symm
              subst e1
              subst eR
              subst eI
              refine ⟨rfl, ?_⟩
              refine pw_aload_n h 1 d_X8_jack_83 rfl ?_
              refine pw_iload h 5 d_X8_jack_84 rfl ?_
              refine pw_callV (As := [.int _]) h d_X8_jack_86 mf_X8_part mi_X8_part ml_RX8_305 ⟨by decide, by decide, by decide⟩ (by assumption) rfl rfl (Nat.le_of_ble_eq_true rfl) trivial (c_X8_part hM0 _) ?_
              refine PKk.ret ?_
              refine pw_lret h hr d_X8_jack_89 (by decide) (by decide) ?_
              exact ⟨rfl, rfl, fM2, frML_t fL2 (frML_F f3), ifA_t (by simp only [c_4, c_11, c_33, c_44, hsn0, Bool.and_self]) (Or.inl ⟨c, hc, congrArg (fun z => some (Value.long z)) (RF_ans r3 w)⟩)⟩
            · skip
              rw [e5_62] at c_66
              refine pw_ldc2 h d_X8_jack_69 ck_RX8_299 ?_
              refine pw_lret h hr d_X8_jack_72 (by decide) (by decide) ?_
              exact ⟨rfl, rfl, fM2, fL2, ifA_t (by simp only [c_4, c_11, c_33, c_44, hsn0, Bool.and_self]) (Or.inr ⟨hx2 c_66, rfl⟩)⟩
          · skip
            rw [bI_1] at c_44
            refine pw_ldc2 h d_X8_jack_47 ck_RX8_290 ?_
            refine pw_lret h hr d_X8_jack_50 (by decide) (by decide) ?_
            refine ⟨rfl, rfl, frMI_0, frML_0, ifA_f ?_ rfl⟩
            first | (simp only [c_4, Bool.false_and]; done) | (simp only [c_11, Bool.false_and, Bool.and_false]; done) | (simp only [hsn, Bool.and_false]; done) | (simp only [c_33, Bool.false_and, Bool.and_false]; done) | (simp only [c_44, Bool.false_and, Bool.and_false]; done)
