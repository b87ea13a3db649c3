set_option maxHeartbeats 4000000 in
set_option maxRecDepth 100000 in
theorem c_X7_load {sh : Sh} {I : IM} {L : LM} {R : RM} (hCl : ClsF sh R) {A : LA} (hm : CLm I A) (a : okA A) (hr0 : CRest I L A) (v b w : Int32) : PMet M_X7_load [.ref 0, .int v, .int b, .int w] sh I L R (obs sh I L R A (fun ret => ifA (isW v 0 3 && isBn (aN A) b && isW w 0 1) (rsA A v.toNatClampNeg (fun c => ret = some (.long (ansL (qLd A v.toNatClampNeg (setA A c) b.toNatClampNeg) w))) (ret = refL (-2))) (ret = refL (-1)))) := by
  refine PMet.of mf_X7_load (Nat.le_of_ble_eq_true rfl) ?_
  intro X h hr hml
  have hml : (xc X).maxLocals = 4 := hml
  have h : PXok X RX7 cX7_load 7 0 0 := h
  have hr : PXr X (some .long) "load" _ 0 0 := hr
  have hCl := hCl
  obtain ⟨hC, hB21, hB33, hQ, hPl⟩ := id hCl
  have hC0 := hC
  obtain ⟨k0, r0, r1, r2, r4, r5, r6, r7, r8, r13, r15, r16, hL, k7, r7s, k8s, k12, k20, r20s, hSs, k71, k72⟩ := hC
  have hL0 := hL
  obtain ⟨f0, f1, f2, f3, f4, f5, g1, g2, g3, g4, g5⟩ := hL
  have hQ0 := hQ
  obtain ⟨q0, q1, hB45, q13, q14, q15, p2, p3, p4⟩ := id hQ
  have hn := hm.1
  have h6 := a.1
  have k46 := hB45.1
  have k21 := hB21.1
  have k33 := hB33.1
  show PW X 0 [(0, .ref 0), (1, .int v), (2, .int b), (3, .int w)] [] sh I L R 0 0
  refine pw_iload_n h 1 d_X7_load_0 rfl ?_
  refine pw_callS (As := [.int _]) h d_X7_load_1 mf_X7_isState st_yX7_isState ml_RX7_132 ⟨by decide, by decide, by decide⟩ rfl rfl (Nat.le_of_ble_eq_true rfl) c_X7_isState ?_
  refine PKk.ret ?_
  refine pw_if_eq 22 h d_X7_load_4 (by decide) (fun c_4 => ?_) (fun c_4 => ?_)
  · skip
    rw [bI_1] at c_4
    refine pw_iconst (x := (-1)) h d_X7_load_22 (by decide) ?_
    refine pw_callS (As := [.int _]) h d_X7_load_23 mf_X7_refusal st_yX7_refusal ml_RX7_185 ⟨by decide, by decide, by decide⟩ rfl rfl (Nat.le_of_ble_eq_true rfl) c_X7_refusal ?_
    refine PKk.ret ?_
    refine pw_lret h hr d_X7_load_26 (by decide) (by decide) ?_
    refine ⟨rfl, rfl, frB_0, frBL_0, hr0, ifA_f ?_ rfl⟩
    first | (simp only [isBn, c_4, Bool.false_and]; done) | (simp only [isBn, c_4, c_12, Bool.false_and, Bool.and_false]; done) | (simp only [isBn, c_4, c_12, c_19, Bool.and_false]; done)
  · skip
    rw [bI_1, Bool.not_eq_false] at c_4
    refine pw_aload_n h 0 d_X7_load_7 rfl ?_
    refine pw_iload_n h 2 d_X7_load_8 rfl ?_
    refine pw_callV (As := [.int _]) h d_X7_load_9 mf_X7_isBearing mi_X7_isBearing ml_RX7_115 ⟨by decide, by decide, by decide⟩ (by assumption) rfl rfl (Nat.le_of_ble_eq_true rfl) trivial (c_X7_isBearing _ (by assumption) (by assumption) (by assumption) hn h6) ?_
    refine PKk.ret ?_
    refine pw_if_eq 22 h d_X7_load_12 (by decide) (fun c_12 => ?_) (fun c_12 => ?_)
    · skip
      rw [bI_1] at c_12
      refine pw_iconst (x := (-1)) h d_X7_load_22 (by decide) ?_
      refine pw_callS (As := [.int _]) h d_X7_load_23 mf_X7_refusal st_yX7_refusal ml_RX7_185 ⟨by decide, by decide, by decide⟩ rfl rfl (Nat.le_of_ble_eq_true rfl) c_X7_refusal ?_
      refine PKk.ret ?_
      refine pw_lret h hr d_X7_load_26 (by decide) (by decide) ?_
      refine ⟨rfl, rfl, frB_0, frBL_0, hr0, ifA_f ?_ rfl⟩
      first | (simp only [isBn, c_4, Bool.false_and]; done) | (simp only [isBn, c_4, c_12, Bool.false_and, Bool.and_false]; done) | (simp only [isBn, c_4, c_12, c_19, Bool.and_false]; done)
    · skip
      rw [bI_1, Bool.not_eq_false] at c_12
      refine pw_iload_n h 3 d_X7_load_15 rfl ?_
      refine pw_callS (As := [.int _]) h d_X7_load_16 mf_X7_isPart st_yX7_isPart ml_RX7_182 ⟨by decide, by decide, by decide⟩ rfl rfl (Nat.le_of_ble_eq_true rfl) c_X7_isPart ?_
      refine PKk.ret ?_
      refine pw_if_ne 27 h d_X7_load_19 (by decide) (fun c_19 => ?_) (fun c_19 => ?_)
      · skip
        rw [bI_1, Bool.not_eq_false] at c_19
        have hx0 := isW_ix (N := 4) c_4 rfl (by decide)
        have hst := px_ix_lt hx0
        have est : v = nI v.toNatClampNeg := px_ix_eq hx0
        have hbx := isBn_ix (N := 7) c_12 (by omega)
        have hbl := isBn_ix (n := aN A) (N := aN A) c_12 (Nat.le_refl _)
        refine pw_aload_n h 0 d_X7_load_27 rfl ?_
        refine pw_iload_n h 1 d_X7_load_28 rfl ?_
        refine pw_callV (As := [.int _]) h d_X7_load_29 mf_X7_comesToRest mi_X7_comesToRest ml_RX7_189 ⟨by decide, by decide, by decide⟩ (by assumption) rfl rfl (Nat.le_of_ble_eq_true rfl) trivial (c_X7_comesToRest hCl hm a hr0 hst est) ?_
        intro ret1 sh1 I1 L1 R1 hp1
        obtain ⟨e1, eR, fK1, fL1, h9_1, hcr1, hres⟩ := hp1
        have e1 := e1.symm
        have eR := eR.symm
        subst e1
        subst eR
        obtain ⟨bb, hbb, hb1, hb2⟩ := ctr_b hcr1 hres
        subst hbb
        have hm1 : CLm I1 A := CLm_K hm fK1
        have hre1 : CRest I1 L1 A := CRest_of hst h9_1 hcr1
        refine ⟨rfl, ?_⟩
        refine pw_if_ne 41 h d_X7_load_32 (by decide) (fun c_32 => ?_) (fun c_32 => ?_)
        · skip
          rw [bI_1, Bool.not_eq_false] at c_32
          obtain ⟨c, hc, hS⟩ := hb1 c_32
          have h2 := fir_2 (by omega) hc
          refine pw_aload_n h 0 d_X7_load_41 rfl ?_
          refine pw_getR (j := 71) 7 h d_X7_load_42 fd_RX7_85 (by assumption) rfl (by assumption) ?_
          refine pw_aload_n h 0 d_X7_load_45 rfl ?_
          refine pw_getR (j := 45) 7 h d_X7_load_46 fd_RX7_55 (by assumption) rfl (by assumption) ?_
          refine pw_iload_n h 2 d_X7_load_49 rfl ?_
          refine pw_callV (As := [.int _]) h d_X7_load_50 mf_X5_pushOf mi_X5_pushOf ml_RX7_192 ⟨by decide, by decide, by decide⟩ (by assumption) rfl rfl (Nat.le_of_ble_eq_true rfl) trivial (c_X5_pushOf hQ0 hbx (rs_seat (okA_S a hst) hS _ (px_ix_lt hbl))) ?_
          refine PKk.ret ?_
          refine pw_aload_n h 0 d_X7_load_53 rfl ?_
          refine pw_getR (j := 45) 7 h d_X7_load_54 fd_RX7_55 (by assumption) rfl (by assumption) ?_
          refine pw_getR (j := 46) 5 h d_X7_load_57 fd_RX7_195 (by assumption) rfl (by assumption) ?_
          refine pw_getL 0 h d_X7_load_60 fd_RX7_196 (by assumption) rfl ?_
          refine pw_callV (As := [.long _, .long _]) h d_X7_load_63 mf_X1_become mi_X1_become ml_RX7_200 ⟨by decide, by decide, by decide⟩ (by assumption) rfl rfl (Nat.le_of_ble_eq_true rfl) trivial (c_X1_become k71 _ _) ?_
          refine PKk.ret ?_
          refine pw_aload_n h 0 d_X7_load_66 rfl ?_
          refine pw_getR (j := 71) 7 h d_X7_load_67 fd_RX7_85 (by assumption) rfl (by assumption) ?_
          refine pw_iload_n h 3 d_X7_load_70 rfl ?_
          refine pw_callV (As := [.int _]) h d_X7_load_71 mf_X1_part mi_X1_part ml_RX7_203 ⟨by decide, by decide, by decide⟩ (by assumption) rfl rfl (Nat.le_of_ble_eq_true rfl) trivial (c_X1_part k71 _) ?_
          refine PKk.ret ?_
          refine pw_lret h hr d_X7_load_74 (by decide) (by decide) ?_
          refine ⟨rfl, rfl, frB_K fK1, frBL_t (frBL_K fL1) be_frL, CRest_fr hre1 (fun _ _ _ _ => rfl) (fun _ _ => rfl) (fun a k h1 h2 => be_fr a k (by omega)), ifA_t (by simp only [isBn, c_4, c_12, c_19, Bool.and_self]) (Or.inl ⟨c, hc, ?_⟩)⟩
          exact congrArg (fun z => some (Value.long z)) (ans_load a hst hS h2 (px_ix_lt hbl) w)
        · skip
          rw [bI_1] at c_32
          refine pw_bipush (x := (-2)) h d_X7_load_35 (by decide) ?_
          refine pw_callS (As := [.int _]) h d_X7_load_37 mf_X7_refusal st_yX7_refusal ml_RX7_185 ⟨by decide, by decide, by decide⟩ rfl rfl (Nat.le_of_ble_eq_true rfl) c_X7_refusal ?_
          refine PKk.ret ?_
          refine pw_lret h hr d_X7_load_40 (by decide) (by decide) ?_
          exact ⟨rfl, rfl, frB_K fK1, frBL_K fL1, hre1, ifA_t (by simp only [isBn, c_4, c_12, c_19, Bool.and_self]) (Or.inr ⟨hb2 c_32, rfl⟩)⟩
      · skip
        rw [bI_1] at c_19
        refine pw_iconst (x := (-1)) h d_X7_load_22 (by decide) ?_
        refine pw_callS (As := [.int _]) h d_X7_load_23 mf_X7_refusal st_yX7_refusal ml_RX7_185 ⟨by decide, by decide, by decide⟩ rfl rfl (Nat.le_of_ble_eq_true rfl) c_X7_refusal ?_
        refine PKk.ret ?_
        refine pw_lret h hr d_X7_load_26 (by decide) (by decide) ?_
        refine ⟨rfl, rfl, frB_0, frBL_0, hr0, ifA_f ?_ rfl⟩
        first | (simp only [isBn, c_4, Bool.false_and]; done) | (simp only [isBn, c_4, c_12, Bool.false_and, Bool.and_false]; done) | (simp only [isBn, c_4, c_12, c_19, Bool.and_false]; done)

set_option maxHeartbeats 4000000 in
set_option maxRecDepth 100000 in
theorem c_X7_high {sh : Sh} {I : IM} {L : LM} {R : RM} (hCl : ClsF sh R) {A : LA} (hm : CLm I A) (a : okA A) (hr0 : CRest I L A) (v p w : Int32) : PMet M_X7_high [.ref 0, .int v, .int p, .int w] sh I L R (obs sh I L R A (fun ret => ifA (isW v 0 3 && isW p 0 12 && isW w 0 1) (rsA A v.toNatClampNeg (fun c => ret = some (.long (ansL (yS A v.toNatClampNeg (setA A c) p.toNatClampNeg) w))) (ret = refL (-2))) (ret = refL (-1)))) := by
  refine PMet.of mf_X7_high (Nat.le_of_ble_eq_true rfl) ?_
  intro X h hr hml
  have hml : (xc X).maxLocals = 4 := hml
  have h : PXok X RX7 cX7_high 7 0 0 := h
  have hr : PXr X (some .long) "high" _ 0 0 := hr
  have hCl := hCl
  obtain ⟨hC, hB21, hB33, hQ, hPl⟩ := id hCl
  have hC0 := hC
  obtain ⟨k0, r0, r1, r2, r4, r5, r6, r7, r8, r13, r15, r16, hL, k7, r7s, k8s, k12, k20, r20s, hSs, k71, k72⟩ := hC
  have hL0 := hL
  obtain ⟨f0, f1, f2, f3, f4, f5, g1, g2, g3, g4, g5⟩ := hL
  have hQ0 := hQ
  obtain ⟨q0, q1, hB45, q13, q14, q15, p2, p3, p4⟩ := id hQ
  have hn := hm.1
  have h6 := a.1
  have k46 := hB45.1
  have k21 := hB21.1
  have k33 := hB33.1
  show PW X 0 [(0, .ref 0), (1, .int v), (2, .int p), (3, .int w)] [] sh I L R 0 0
  refine pw_iload_n h 1 d_X7_high_0 rfl ?_
  refine pw_callS (As := [.int _]) h d_X7_high_1 mf_X7_isState st_yX7_isState ml_RX7_132 ⟨by decide, by decide, by decide⟩ rfl rfl (Nat.le_of_ble_eq_true rfl) c_X7_isState ?_
  refine PKk.ret ?_
  refine pw_if_eq 21 h d_X7_high_4 (by decide) (fun c_4 => ?_) (fun c_4 => ?_)
  · skip
    rw [bI_1] at c_4
    refine pw_iconst (x := (-1)) h d_X7_high_21 (by decide) ?_
    refine pw_callS (As := [.int _]) h d_X7_high_22 mf_X7_refusal st_yX7_refusal ml_RX7_185 ⟨by decide, by decide, by decide⟩ rfl rfl (Nat.le_of_ble_eq_true rfl) c_X7_refusal ?_
    refine PKk.ret ?_
    refine pw_lret h hr d_X7_high_25 (by decide) (by decide) ?_
    refine ⟨rfl, rfl, frB_0, frBL_0, hr0, ifA_f ?_ rfl⟩
    first | (simp only [isBn, c_4, Bool.false_and]; done) | (simp only [isBn, c_4, c_11, Bool.false_and, Bool.and_false]; done) | (simp only [isBn, c_4, c_11, c_18, Bool.and_false]; done)
  · skip
    rw [bI_1, Bool.not_eq_false] at c_4
    refine pw_iload_n h 2 d_X7_high_7 rfl ?_
    refine pw_callS (As := [.int _]) h d_X7_high_8 mf_X7_isPlace st_yX7_isPlace ml_RX7_93 ⟨by decide, by decide, by decide⟩ rfl rfl (Nat.le_of_ble_eq_true rfl) c_X7_isPlace ?_
    refine PKk.ret ?_
    refine pw_if_eq 21 h d_X7_high_11 (by decide) (fun c_11 => ?_) (fun c_11 => ?_)
    · skip
      rw [bI_1] at c_11
      refine pw_iconst (x := (-1)) h d_X7_high_21 (by decide) ?_
      refine pw_callS (As := [.int _]) h d_X7_high_22 mf_X7_refusal st_yX7_refusal ml_RX7_185 ⟨by decide, by decide, by decide⟩ rfl rfl (Nat.le_of_ble_eq_true rfl) c_X7_refusal ?_
      refine PKk.ret ?_
      refine pw_lret h hr d_X7_high_25 (by decide) (by decide) ?_
      refine ⟨rfl, rfl, frB_0, frBL_0, hr0, ifA_f ?_ rfl⟩
      first | (simp only [isBn, c_4, Bool.false_and]; done) | (simp only [isBn, c_4, c_11, Bool.false_and, Bool.and_false]; done) | (simp only [isBn, c_4, c_11, c_18, Bool.and_false]; done)
    · skip
      rw [bI_1, Bool.not_eq_false] at c_11
      refine pw_iload_n h 3 d_X7_high_14 rfl ?_
      refine pw_callS (As := [.int _]) h d_X7_high_15 mf_X7_isPart st_yX7_isPart ml_RX7_182 ⟨by decide, by decide, by decide⟩ rfl rfl (Nat.le_of_ble_eq_true rfl) c_X7_isPart ?_
      refine PKk.ret ?_
      refine pw_if_ne 26 h d_X7_high_18 (by decide) (fun c_18 => ?_) (fun c_18 => ?_)
      · skip
        rw [bI_1, Bool.not_eq_false] at c_18
        have hx0 := isW_ix (N := 4) c_4 rfl (by decide)
        have hst := px_ix_lt hx0
        have est : v = nI v.toNatClampNeg := px_ix_eq hx0
        have hpx := isW_ix (N := 13) c_11 rfl (by decide)
        have epx : p = nI p.toNatClampNeg := px_ix_eq hpx
        refine pw_aload_n h 0 d_X7_high_26 rfl ?_
        refine pw_iload_n h 1 d_X7_high_27 rfl ?_
        refine pw_callV (As := [.int _]) h d_X7_high_28 mf_X7_comesToRest mi_X7_comesToRest ml_RX7_189 ⟨by decide, by decide, by decide⟩ (by assumption) rfl rfl (Nat.le_of_ble_eq_true rfl) trivial (c_X7_comesToRest hCl hm a hr0 hst est) ?_
        intro ret1 sh1 I1 L1 R1 hp1
        obtain ⟨e1, eR, fK1, fL1, h9_1, hcr1, hres⟩ := hp1
        have e1 := e1.symm
        have eR := eR.symm
        subst e1
        subst eR
        obtain ⟨bb, hbb, hb1, hb2⟩ := ctr_b hcr1 hres
        subst hbb
        have hm1 : CLm I1 A := CLm_K hm fK1
        have hre1 : CRest I1 L1 A := CRest_of hst h9_1 hcr1
        refine ⟨rfl, ?_⟩
        refine pw_if_ne 40 h d_X7_high_31 (by decide) (fun c_31 => ?_) (fun c_31 => ?_)
        · skip
          rw [bI_1, Bool.not_eq_false] at c_31
          obtain ⟨c, hc, hS⟩ := hb1 c_31
          have h2 := fir_2 (by omega) hc
          refine pw_aload_n h 0 d_X7_high_40 rfl ?_
          refine pw_getR (j := 71) 7 h d_X7_high_41 fd_RX7_85 (by assumption) rfl (by assumption) ?_
          refine pw_aload_n h 0 d_X7_high_44 rfl ?_
          refine pw_getR (j := 45) 7 h d_X7_high_45 fd_RX7_55 (by assumption) rfl (by assumption) ?_
          refine pw_getR (j := 46) 5 h d_X7_high_48 fd_RX7_195 (by assumption) rfl (by assumption) ?_
          refine pw_iload_n h 2 d_X7_high_51 rfl ?_
          refine pw_callV (As := [.int _]) h d_X7_high_52 mf_X0_height mi_X0_height ml_RX7_206 ⟨by decide, by decide, by decide⟩ (by assumption) rfl rfl (Nat.le_of_ble_eq_true rfl) trivial (c_X0_height hB45 hS.2.1 (rs_7 (okA_S a hst)) _ hpx (rs_p (okA_S a hst) hS h2 (by omega)) (rs_p (okA_S a hst) hS h2 (by omega))) ?_
          refine PKk.ret ?_
          refine pw_aload_n h 0 d_X7_high_55 rfl ?_
          refine pw_getR (j := 45) 7 h d_X7_high_56 fd_RX7_55 (by assumption) rfl (by assumption) ?_
          refine pw_getR (j := 46) 5 h d_X7_high_59 fd_RX7_195 (by assumption) rfl (by assumption) ?_
          refine pw_callV (As := []) h d_X7_high_62 mf_X0_heightBelow mi_X0_heightBelow ml_RX7_209 ⟨by decide, by decide, by decide⟩ (by assumption) rfl rfl (Nat.le_of_ble_eq_true rfl) trivial (c_X0_heightBelow hB45) ?_
          refine PKk.ret ?_
          refine pw_callV (As := [.long _, .long _]) h d_X7_high_65 mf_X1_become mi_X1_become ml_RX7_200 ⟨by decide, by decide, by decide⟩ (by assumption) rfl rfl (Nat.le_of_ble_eq_true rfl) trivial (c_X1_become k71 _ _) ?_
          refine PKk.ret ?_
          refine pw_aload_n h 0 d_X7_high_68 rfl ?_
          refine pw_getR (j := 71) 7 h d_X7_high_69 fd_RX7_85 (by assumption) rfl (by assumption) ?_
          refine pw_iload_n h 3 d_X7_high_72 rfl ?_
          refine pw_callV (As := [.int _]) h d_X7_high_73 mf_X1_part mi_X1_part ml_RX7_203 ⟨by decide, by decide, by decide⟩ (by assumption) rfl rfl (Nat.le_of_ble_eq_true rfl) trivial (c_X1_part k71 _) ?_
          refine PKk.ret ?_
          refine pw_lret h hr d_X7_high_76 (by decide) (by decide) ?_
          refine ⟨rfl, rfl, frB_K fK1, frBL_t (frBL_K fL1) be_frL, CRest_fr hre1 (fun _ _ _ _ => rfl) (fun _ _ => rfl) (fun a k h1 h2 => be_fr a k (by omega)), ifA_t (by simp only [isBn, c_4, c_11, c_18, Bool.and_self]) (Or.inl ⟨c, hc, ?_⟩)⟩
          have := ans_high a hst hS h2 (px_ix_lt hpx) w
          rw [← epx] at this
          exact congrArg (fun z => some (Value.long z)) this
        · skip
          rw [bI_1] at c_31
          refine pw_bipush (x := (-2)) h d_X7_high_34 (by decide) ?_
          refine pw_callS (As := [.int _]) h d_X7_high_36 mf_X7_refusal st_yX7_refusal ml_RX7_185 ⟨by decide, by decide, by decide⟩ rfl rfl (Nat.le_of_ble_eq_true rfl) c_X7_refusal ?_
          refine PKk.ret ?_
          refine pw_lret h hr d_X7_high_39 (by decide) (by decide) ?_
          exact ⟨rfl, rfl, frB_K fK1, frBL_K fL1, hre1, ifA_t (by simp only [isBn, c_4, c_11, c_18, Bool.and_self]) (Or.inr ⟨hb2 c_31, rfl⟩)⟩
      · skip
        rw [bI_1] at c_18
        refine pw_iconst (x := (-1)) h d_X7_high_21 (by decide) ?_
        refine pw_callS (As := [.int _]) h d_X7_high_22 mf_X7_refusal st_yX7_refusal ml_RX7_185 ⟨by decide, by decide, by decide⟩ rfl rfl (Nat.le_of_ble_eq_true rfl) c_X7_refusal ?_
        refine PKk.ret ?_
        refine pw_lret h hr d_X7_high_25 (by decide) (by decide) ?_
        refine ⟨rfl, rfl, frB_0, frBL_0, hr0, ifA_f ?_ rfl⟩
        first | (simp only [isBn, c_4, Bool.false_and]; done) | (simp only [isBn, c_4, c_11, Bool.false_and, Bool.and_false]; done) | (simp only [isBn, c_4, c_11, c_18, Bool.and_false]; done)
