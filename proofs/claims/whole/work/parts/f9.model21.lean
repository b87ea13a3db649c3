set_option maxHeartbeats 4000000 in
set_option maxRecDepth 100000 in
theorem c_X8_load {sh : Sh} {I : IM} {L : LM} {R : RM} {m : Nat} {A : LA} (hM : ModF sh R m) (hm : MSm I m A) (a : okA A) (v b w : Int32) : PMet M_X8_load [.ref m, .int v, .int b, .int w] sh I L R (obM sh I L R m (fun ret => ifA (isW v 0 3 && isBn (aN A) b && isW w 0 1) (rsA A v.toNatClampNeg (fun c => ret = some (.long (ansL (qLd A v.toNatClampNeg (setA A c) b.toNatClampNeg) w))) (ret = refL (-2))) (ret = refL (-1)))) := by
  refine PMet.of mf_X8_load (Nat.le_of_ble_eq_true rfl) ?_
  intro X h hr hml
  have hml : (xc X).maxLocals = 5 := hml
  have h : PXok X RX8 cX8_load 9 0 0 := h
  have hr : PXr X (some .long) "load" _ 0 0 := hr
  have hM0 := hM
  obtain ⟨f0, f1, f2, f3, f4, f5, f6, f7, f8, f9, f10, f11, f12, f13, f14, f15, f16, f17, f18, f19, f20, f21, f22, f23, f24, f25, f26, f27, g1, g2, g3, g4, g5, g6, g7, g8, g9, g10, g11, g12, g13, g14, g15, g16, g17, g18, g19, g20, g21, g22, g23, g24, g25, g26, g27⟩ := hM
  have hn := hm.1
  have h6 := a.1
  show PW X 0 [(0, .ref m), (1, .int v), (2, .int b), (3, .int w)] [] sh I L R 0 0
  refine pw_iload_n h 1 d_X8_load_0 rfl ?_
  refine pw_callS (As := [.int _]) h d_X8_load_1 mf_X8_isState st_yX8_isState ml_RX8_135 ⟨by decide, by decide, by decide⟩ rfl rfl (Nat.le_of_ble_eq_true rfl) c_X8_isState ?_
  refine PKk.ret ?_
  refine pw_if_eq 25 h d_X8_load_4 (by decide) (fun c_4 => ?_) (fun c_4 => ?_)
  · skip
    rw [bI_1] at c_4
    refine pw_ldc2 h d_X8_load_25 ck_RX8_290 ?_
    refine pw_lret h hr d_X8_load_28 (by decide) (by decide) ?_
    refine ⟨rfl, rfl, frMI_0, frML_0, ifA_f ?_ rfl⟩
    first | (simp only [isBn, c_4, Bool.false_and]; done) | (simp only [isBn, c_4, c_12, Bool.false_and, Bool.and_false]; done) | (simp only [isBn, c_4, c_12, c_22, Bool.and_false]; done)
  · skip
    rw [bI_1, Bool.not_eq_false] at c_4
    refine pw_aload_n h 0 d_X8_load_7 rfl ?_
    refine pw_iload_n h 2 d_X8_load_8 rfl ?_
    refine pw_callV (As := [.int _]) h d_X8_load_9 mf_X8_isBearing mi_X8_isBearing ml_RX8_128 ⟨by decide, by decide, by decide⟩ (by assumption) rfl rfl (Nat.le_of_ble_eq_true rfl) trivial (c_X8_isBearing hM0 hn h6) ?_
    refine PKk.ret ?_
    refine pw_if_eq 25 h d_X8_load_12 (by decide) (fun c_12 => ?_) (fun c_12 => ?_)
    · skip
      rw [bI_1] at c_12
      refine pw_ldc2 h d_X8_load_25 ck_RX8_290 ?_
      refine pw_lret h hr d_X8_load_28 (by decide) (by decide) ?_
      refine ⟨rfl, rfl, frMI_0, frML_0, ifA_f ?_ rfl⟩
      first | (simp only [isBn, c_4, Bool.false_and]; done) | (simp only [isBn, c_4, c_12, Bool.false_and, Bool.and_false]; done) | (simp only [isBn, c_4, c_12, c_22, Bool.and_false]; done)
    · skip
      rw [bI_1, Bool.not_eq_false] at c_12
      refine pw_iload_n h 3 d_X8_load_15 rfl ?_
      refine pw_i2l h d_X8_load_16 ?_
      refine pw_lconst (x := 0) h d_X8_load_17 (by decide) ?_
      refine pw_lconst (x := 1) h d_X8_load_18 (by decide) ?_
      refine pw_callS (As := [.long _, .long _, .long _]) h d_X8_load_19 mf_X8_in st_yX8_in ml_RX8_105 ⟨by decide, by decide, by decide⟩ rfl rfl (Nat.le_of_ble_eq_true rfl) (c_X8_inW (a := 0) (b := 1) rfl rfl) ?_
      refine PKk.ret ?_
      refine pw_if_ne 29 h d_X8_load_22 (by decide) (fun c_22 => ?_) (fun c_22 => ?_)
      · skip
        rw [bI_1, Bool.not_eq_false] at c_22
        have hx0 := isW_ix (N := 4) c_4 rfl (by decide)
        have hst := px_ix_lt hx0
        have est : v = nI v.toNatClampNeg := px_ix_eq hx0
        have hbl := isBn_ix (n := aN A) (N := aN A) c_12 (Nat.le_refl _)
        have eb := px_ix_eq hbl
        refine pw_aload_n h 0 d_X8_load_29 rfl ?_
        refine pw_iload_n h 1 d_X8_load_30 rfl ?_
        refine pw_iconst (x := (-1)) h d_X8_load_31 (by decide) ?_
        refine pw_iconst (x := 0) h d_X8_load_32 (by decide) ?_
        refine pw_callV (As := [.int _, .int _, .int _]) h d_X8_load_33 mf_X8_stands mi_X8_stands ml_RX8_292 ⟨by decide, by decide, by decide⟩ (by assumption) rfl rfl (Nat.le_of_ble_eq_true rfl) trivial (c_X8_stands hM0 hm a hst est (std_A a _ _ (-4)) (by decide)) ?_
        intro ret1 sh1 I1 L1 R1_ hp1
        obtain ⟨e0, e1, eR, eL, fs1, hc1, hj1⟩ := hp1
        subst e0
        have e1 := e1.symm
        have eR := eR.symm
        have eL := eL.symm
        subst e1
        subst eR
        subst eL
        refine ⟨rfl, ?_⟩
        have fM1 : frMI m I I1 := frMI_S fs1
        have hm1 := MSm_MI hm fM1
        refine pw_aload_n h 0 d_X8_load_36 rfl ?_
        refine pw_callV (As := []) h d_X8_load_37 mf_X8_rests mi_X8_rests ml_RX8_296 ⟨by decide, by decide, by decide⟩ (by assumption) rfl rfl (Nat.le_of_ble_eq_true rfl) trivial (c_X8_rests hM0 hc1 (okA_S a hst)) ?_
        intro ret2 sh2 I2 L2 R2 hp2
        obtain ⟨e1, eR, fr2, g2, hres2⟩ := hp2
        have e1 := e1.symm
        have eR := eR.symm
        subst e1
        subst eR
        obtain ⟨x2, ex2, hx1, hx2⟩ := rsm_or (by omega) hres2
        subst ex2
        have fM2 : frMI m I I2 := frMI_t fM1 (frMI_C fr2)
        have hm2 := MSm_MI hm fM2
        have fL2 : frML m L L2 := frML_G g2
        refine ⟨rfl, ?_⟩
        refine pw_nmI (fun v4_40 e4_40 => ?_)
        refine pw_istore (lv' := [(4, .int v4_40), (0, .ref m), (1, .int v), (2, .int b), (3, .int w)]) h d_X8_load_40 _ hml (by decide) rfl ?_
        refine pw_iload h 0 d_X8_load_42 rfl ?_
        refine pw_if_ge 51 h d_X8_load_44 (by decide) (fun c_44 => ?_) (fun c_44 => ?_)
        · skip
          rw [e4_40] at c_44
          obtain ⟨c, hc, ec, hS, hlo⟩ := hx1 c_44
          have h2 := fir_2 (show aN A ≤ 7 by omega) hc
          have ev_ : v4_40 = nI (rvN (aN A) c) := e4_40.trans ec
          have hsel := sel_v (show aN A ≤ 7 by omega) hc.1 ev_
          refine pw_aload_n h 1 d_X8_load_51 rfl ?_
          refine pw_iload h 0 d_X8_load_52 rfl ?_
          refine pw_iload_n h 3 d_X8_load_54 rfl ?_
          refine pw_callV (As := [.int _, .int _]) h d_X8_load_55 mf_X8_loadOf mi_X8_loadOf ml_RX8_301 ⟨by decide, by decide, by decide⟩ (by assumption) rfl rfl (Nat.le_of_ble_eq_true rfl) trivial (c_X8_loadOf hM0 (okA_S a hst) h2 hS hlo hsel eb (px_ix_lt hbl)) ?_
          intro ret3 sh3 I3 L3 R3_ hp3
          obtain ⟨e0, e1, eR, eI, f3, r3⟩ := hp3
          subst e0
          have e1 := e1.symm
          have eR := eR.symm
          have eI := eI.symm
          subst e1
          subst eR
          subst eI
          refine ⟨rfl, ?_⟩
          refine pw_aload_n h 1 d_X8_load_58 rfl ?_
          refine pw_iload_n h 4 d_X8_load_59 rfl ?_
          refine pw_callV (As := [.int _]) h d_X8_load_60 mf_X8_part mi_X8_part ml_RX8_305 ⟨by decide, by decide, by decide⟩ (by assumption) rfl rfl (Nat.le_of_ble_eq_true rfl) trivial (c_X8_part hM0 _) ?_
          refine PKk.ret ?_
          refine pw_lret h hr d_X8_load_63 (by decide) (by decide) ?_
          exact ⟨rfl, rfl, fM2, frML_t fL2 (frML_F f3), ifA_t (by simp only [isBn, c_4, c_12, c_22, Bool.and_self]) (Or.inl ⟨c, hc, congrArg (fun z => some (Value.long z)) (RF_ans r3 w)⟩)⟩
        · skip
          rw [e4_40] at c_44
          refine pw_ldc2 h d_X8_load_47 ck_RX8_299 ?_
          refine pw_lret h hr d_X8_load_50 (by decide) (by decide) ?_
          exact ⟨rfl, rfl, fM2, fL2, ifA_t (by simp only [isBn, c_4, c_12, c_22, Bool.and_self]) (Or.inr ⟨hx2 c_44, rfl⟩)⟩
      · skip
        rw [bI_1] at c_22
        refine pw_ldc2 h d_X8_load_25 ck_RX8_290 ?_
        refine pw_lret h hr d_X8_load_28 (by decide) (by decide) ?_
        refine ⟨rfl, rfl, frMI_0, frML_0, ifA_f ?_ rfl⟩
        first | (simp only [isBn, c_4, Bool.false_and]; done) | (simp only [isBn, c_4, c_12, Bool.false_and, Bool.and_false]; done) | (simp only [isBn, c_4, c_12, c_22, Bool.and_false]; done)

set_option maxHeartbeats 4000000 in
set_option maxRecDepth 100000 in
theorem c_X8_lifted {sh : Sh} {I : IM} {L : LM} {R : RM} {m : Nat} {A : LA} (hM : ModF sh R m) (hm : MSm I m A) (a : okA A) (v : Int32) : PMet M_X8_lifted [.ref m, .int v] sh I L R (obM sh I L R m (fun ret => ifA (isW v 0 3) (rsA A v.toNatClampNeg (fun c => ret = some (.int (bitF (fun b => decide (qLd A v.toNatClampNeg (setA A c) b = 0)) (aN A)))) (ret = some (.int (-2)))) (ret = some (.int (-1))))) := by
  refine PMet.of mf_X8_lifted (Nat.le_of_ble_eq_true rfl) ?_
  intro X h hr hml
  have hml : (xc X).maxLocals = 5 := hml
  have h : PXok X RX8 cX8_lifted 9 0 0 := h
  have hr : PXr X (some .int) "lifted" _ 0 0 := hr
  have hM0 := hM
  obtain ⟨f0, f1, f2, f3, f4, f5, f6, f7, f8, f9, f10, f11, f12, f13, f14, f15, f16, f17, f18, f19, f20, f21, f22, f23, f24, f25, f26, f27, g1, g2, g3, g4, g5, g6, g7, g8, g9, g10, g11, g12, g13, g14, g15, g16, g17, g18, g19, g20, g21, g22, g23, g24, g25, g26, g27⟩ := hM
  have hn := hm.1
  have h6 := a.1
  show PW X 0 [(0, .ref m), (1, .int v)] [] sh I L R 0 0
  refine pw_iload_n h 1 d_X8_lifted_0 rfl ?_
  refine pw_callS (As := [.int _]) h d_X8_lifted_1 mf_X8_isState st_yX8_isState ml_RX8_135 ⟨by decide, by decide, by decide⟩ rfl rfl (Nat.le_of_ble_eq_true rfl) c_X8_isState ?_
  refine PKk.ret ?_
  refine pw_if_ne 9 h d_X8_lifted_4 (by decide) (fun c_4 => ?_) (fun c_4 => ?_)
  · skip
    rw [bI_1, Bool.not_eq_false] at c_4
    have hx0 := isW_ix (N := 4) c_4 rfl (by decide)
    have hst := px_ix_lt hx0
    have est : v = nI v.toNatClampNeg := px_ix_eq hx0
    refine pw_aload_n h 0 d_X8_lifted_9 rfl ?_
    refine pw_iload_n h 1 d_X8_lifted_10 rfl ?_
    refine pw_iconst (x := (-1)) h d_X8_lifted_11 (by decide) ?_
    refine pw_iconst (x := 0) h d_X8_lifted_12 (by decide) ?_
    refine pw_callV (As := [.int _, .int _, .int _]) h d_X8_lifted_13 mf_X8_stands mi_X8_stands ml_RX8_292 ⟨by decide, by decide, by decide⟩ (by assumption) rfl rfl (Nat.le_of_ble_eq_true rfl) trivial (c_X8_stands hM0 hm a hst est (std_A a _ _ (-4)) (by decide)) ?_
    intro ret1 sh1 I1 L1 R1_ hp1
    obtain ⟨e0, e1, eR, eL, fs1, hc1, hj1⟩ := hp1
    subst e0
    have e1 := e1.symm
    have eR := eR.symm
    have eL := eL.symm
    subst e1
    subst eR
    subst eL
    refine ⟨rfl, ?_⟩
    have fM1 : frMI m I I1 := frMI_S fs1
    have hm1 := MSm_MI hm fM1
    refine pw_aload_n h 0 d_X8_lifted_16 rfl ?_
    refine pw_callV (As := []) h d_X8_lifted_17 mf_X8_rests mi_X8_rests ml_RX8_296 ⟨by decide, by decide, by decide⟩ (by assumption) rfl rfl (Nat.le_of_ble_eq_true rfl) trivial (c_X8_rests hM0 hc1 (okA_S a hst)) ?_
    intro ret2 sh2 I2 L2 R2 hp2
    obtain ⟨e1, eR, fr2, g2, hres2⟩ := hp2
    have e1 := e1.symm
    have eR := eR.symm
    subst e1
    subst eR
    obtain ⟨x2, ex2, hx1, hx2⟩ := rsm_or (by omega) hres2
    subst ex2
    have fM2 : frMI m I I2 := frMI_t fM1 (frMI_C fr2)
    have hm2 := MSm_MI hm fM2
    have fL2 : frML m L L2 := frML_G g2
    refine ⟨rfl, ?_⟩
    refine pw_nmI (fun v2_20 e2_20 => ?_)
    refine pw_istore_n (lv' := [(2, .int v2_20), (0, .ref m), (1, .int v)]) h d_X8_lifted_20 rfl _ hml (by decide) rfl ?_
    refine pw_iload_n h 0 d_X8_lifted_21 rfl ?_
    refine pw_if_ge 28 h d_X8_lifted_22 (by decide) (fun c_22 => ?_) (fun c_22 => ?_)
    · skip
      rw [e2_20] at c_22
      obtain ⟨c, hc, ec, hS, hlo⟩ := hx1 c_22
      have h2 := fir_2 (show aN A ≤ 7 by omega) hc
      have ev_ : v2_20 = nI (rvN (aN A) c) := e2_20.trans ec
      have hsel := sel_v (show aN A ≤ 7 by omega) hc.1 ev_
      refine pw_iconst (x := 0) h d_X8_lifted_28 (by decide) ?_
      refine pw_nmI (fun v3_29 e3_29 => ?_)
      refine pw_istore_n (lv' := [(3, .int v3_29), (2, .int v2_20), (0, .ref m), (1, .int v)]) h d_X8_lifted_29 rfl _ hml (by decide) rfl ?_
      refine pw_iconst (x := 0) h d_X8_lifted_30 (by decide) ?_
      refine pw_nmI (fun v4_31 e4_31 => ?_)
      refine pw_istore (lv' := [(4, .int v4_31), (3, .int v3_29), (2, .int v2_20), (0, .ref m), (1, .int v)]) h d_X8_lifted_31 _ hml (by decide) rfl ?_
      have cut_33 : ∀ (N k : Nat) (y u : Int32) (L3 : LM), aN A < k + N → k ≤ aN A → u = nI k → y = bitF (fun b => decide (qLd A v.toNatClampNeg (setA A c) b = 0)) k → frML m L L3 → loF L3 m (cntS (setA A c) (aN A) - 2) (lyN (setA A c) (aQ A) (aN A)) (lyQ (setA A c) (hgt A v.toNatClampNeg) (aN A)) (wgt A) (stf A) → PW X 33 [(0, .ref m), (1, .int v), (2, .int v2_20), (3, .int y), (4, .int u)] [] sh I2 L3 R 0 0 := by
        intro N
        induction N with
        | zero => intros; omega
        | succ N ih =>
          intro k y u L3 hN hk ek ey fL3 hlo3
          refine pw_iload h 4 d_X8_lifted_33 rfl ?_
          refine pw_aload_n h 0 d_X8_lifted_35 rfl ?_
          refine pw_getI 8 h d_X8_lifted_36 fd_RX8_109 (by assumption) rfl ?_
          refine pw_icmp_ge 75 h d_X8_lifted_39 (by decide) (fun c_39 => ?_) (fun c_39 => ?_)
          · skip
            have hge : aN A ≤ k := k_ge ek hm2.1 (by omega) (by omega) c_39
            have e9 : k = aN A := by omega
            refine pw_iload_n h 3 d_X8_lifted_75 rfl ?_
            refine pw_iret h hr d_X8_lifted_76 rfl (by decide) (by decide) ?_
            exact ⟨rfl, rfl, fM2, fL3, ifA_t c_4 (Or.inl ⟨c, hc, by rw [ey, e9]⟩)⟩
          · skip
            have hkl : k < aN A := k_lt ek hm2.1 (by omega) (by omega) c_39
            refine pw_aload_n h 0 d_X8_lifted_42 rfl ?_
            refine pw_iload_n h 2 d_X8_lifted_43 rfl ?_
            refine pw_iload h 4 d_X8_lifted_44 rfl ?_
            refine pw_callV (As := [.int _, .int _]) h d_X8_lifted_46 mf_X8_loadOf mi_X8_loadOf ml_RX8_301 ⟨by decide, by decide, by decide⟩ (by assumption) rfl rfl (Nat.le_of_ble_eq_true rfl) trivial (c_X8_loadOf hM0 (okA_S a hst) h2 hS hlo3 hsel ek hkl) ?_
            intro ret4 sh4 I4 L4 R4_ hp4
            obtain ⟨e0, e1, eR, eI, f3, r3⟩ := hp4
            subst e0
            have e1 := e1.symm
            have eR := eR.symm
            have eI := eI.symm
            subst e1
            subst eR
            subst eI
            refine ⟨rfl, ?_⟩
            have hlo4 := loF_U (frU_F f3) hlo3
            have fL4 := frML_t fL3 (frML_F f3)
            refine pw_iload_n h 3 d_X8_lifted_49 rfl ?_
            refine pw_aload_n h 0 d_X8_lifted_50 rfl ?_
            refine pw_getL 8 h d_X8_lifted_51 fd_RX8_202 (by assumption) rfl ?_
            refine pw_lconst (x := 0) h d_X8_lifted_54 (by decide) ?_
            refine pw_lcmp h d_X8_lifted_55 ?_
            refine pw_if_ne 66 h d_X8_lifted_56 (by decide) (fun c_56 => ?_) (fun c_56 => ?_)
            · skip
              rw [lc_eq, zL, RF_z r3] at c_56
              refine pw_iconst (x := 0) h d_X8_lifted_66 (by decide) ?_
              refine pw_ior h d_X8_lifted_67 ?_
              refine pw_nmI (fun v3_68 e3_68 => ?_)
              refine pw_istore_n (lv' := [(3, .int v3_68), (0, .ref m), (1, .int v), (2, .int v2_20), (4, .int u)]) h d_X8_lifted_68 rfl _ hml (by decide) rfl ?_
              obtain ⟨v4_69, e4_69⟩ : ∃ z : Int32, z = u + (1) := ⟨_, rfl⟩
              refine pw_iinc (lv' := [(4, .int v4_69), (3, .int v3_68), (0, .ref m), (1, .int v), (2, .int v2_20)]) v4_69 h d_X8_lifted_69 4 rfl e4_69.symm _ hml (by decide) rfl ?_
              refine pw_goto 33 h d_X8_lifted_72 (by decide) ?_
              refine PW.perm [2, 3, 4, 1, 0] rfl ?_
              exact ih (k + 1) _ _ _ (by omega) (by omega) (k_up e4_69 ek) (by rw [e3_68]; exact bit_f ey (fun q9 => c_56 (of_decide_eq_true q9))) fL4 hlo4
            · skip
              rw [lc_eq, zL, RF_z r3] at c_56
              refine pw_iconst (x := 1) h d_X8_lifted_59 (by decide) ?_
              refine pw_iload h 4 d_X8_lifted_60 rfl ?_
              refine pw_ishl h d_X8_lifted_62 ?_
              refine pw_goto 67 h d_X8_lifted_63 (by decide) ?_
              refine pw_ior h d_X8_lifted_67 ?_
              refine pw_nmI (fun v3_68 e3_68 => ?_)
              refine pw_istore_n (lv' := [(3, .int v3_68), (0, .ref m), (1, .int v), (2, .int v2_20), (4, .int u)]) h d_X8_lifted_68 rfl _ hml (by decide) rfl ?_
              obtain ⟨v4_69, e4_69⟩ : ∃ z : Int32, z = u + (1) := ⟨_, rfl⟩
              refine pw_iinc (lv' := [(4, .int v4_69), (3, .int v3_68), (0, .ref m), (1, .int v), (2, .int v2_20)]) v4_69 h d_X8_lifted_69 4 rfl e4_69.symm _ hml (by decide) rfl ?_
              refine pw_goto 33 h d_X8_lifted_72 (by decide) ?_
              refine PW.perm [2, 3, 4, 1, 0] rfl ?_
              exact ih (k + 1) _ _ _ (by omega) (by omega) (k_up e4_69 ek) (by rw [e3_68]; exact bit_t ey ek (decide_eq_true c_56)) fL4 hlo4
      refine PW.perm [3, 4, 2, 1, 0] rfl ?_
      exact cut_33 (aN A + 1) 0 _ _ _ (by omega) (Nat.zero_le _) e4_31 e3_29 fL2 hlo
    · skip
      rw [e2_20] at c_22
      refine pw_bipush (x := (-2)) h d_X8_lifted_25 (by decide) ?_
      refine pw_iret h hr d_X8_lifted_27 rfl (by decide) (by decide) ?_
      exact ⟨rfl, rfl, fM2, fL2, ifA_t c_4 (Or.inr ⟨hx2 c_22, rfl⟩)⟩
  · skip
    rw [bI_1] at c_4
    refine pw_iconst (x := (-1)) h d_X8_lifted_7 (by decide) ?_
    refine pw_iret h hr d_X8_lifted_8 rfl (by decide) (by decide) ?_
    exact ⟨rfl, rfl, frMI_0, frML_0, ifA_f c_4 rfl⟩

set_option maxHeartbeats 4000000 in
set_option maxRecDepth 100000 in
theorem c_X8_high {sh : Sh} {I : IM} {L : LM} {R : RM} {m : Nat} {A : LA} (hM : ModF sh R m) (hm : MSm I m A) (a : okA A) (v p w : Int32) : PMet M_X8_high [.ref m, .int v, .int p, .int w] sh I L R (obM sh I L R m (fun ret => ifA (isW v 0 3 && isW p 0 12 && isW w 0 1) (rsA A v.toNatClampNeg (fun c => ret = some (.long (ansL (yS A v.toNatClampNeg (setA A c) p.toNatClampNeg) w))) (ret = refL (-2))) (ret = refL (-1)))) := by
  refine PMet.of mf_X8_high (Nat.le_of_ble_eq_true rfl) ?_
  intro X h hr hml
  have hml : (xc X).maxLocals = 4 := hml
  have h : PXok X RX8 cX8_high 9 0 0 := h
  have hr : PXr X (some .long) "high" _ 0 0 := hr
  have hM0 := hM
  obtain ⟨f0, f1, f2, f3, f4, f5, f6, f7, f8, f9, f10, f11, f12, f13, f14, f15, f16, f17, f18, f19, f20, f21, f22, f23, f24, f25, f26, f27, g1, g2, g3, g4, g5, g6, g7, g8, g9, g10, g11, g12, g13, g14, g15, g16, g17, g18, g19, g20, g21, g22, g23, g24, g25, g26, g27⟩ := hM
  have hn := hm.1
  have h6 := a.1
  show PW X 0 [(0, .ref m), (1, .int v), (2, .int p), (3, .int w)] [] sh I L R 0 0
  refine pw_iload_n h 1 d_X8_high_0 rfl ?_
  refine pw_callS (As := [.int _]) h d_X8_high_1 mf_X8_isState st_yX8_isState ml_RX8_135 ⟨by decide, by decide, by decide⟩ rfl rfl (Nat.le_of_ble_eq_true rfl) c_X8_isState ?_
  refine PKk.ret ?_
  refine pw_if_eq 24 h d_X8_high_4 (by decide) (fun c_4 => ?_) (fun c_4 => ?_)
  · skip
    rw [bI_1] at c_4
    refine pw_ldc2 h d_X8_high_24 ck_RX8_290 ?_
    refine pw_lret h hr d_X8_high_27 (by decide) (by decide) ?_
    refine ⟨rfl, rfl, frMI_0, frML_0, ifA_f ?_ rfl⟩
    first | (simp only [isBn, c_4, Bool.false_and]; done) | (simp only [isBn, c_4, c_11, Bool.false_and, Bool.and_false]; done) | (simp only [isBn, c_4, c_11, c_21, Bool.and_false]; done)
  · skip
    rw [bI_1, Bool.not_eq_false] at c_4
    refine pw_iload_n h 2 d_X8_high_7 rfl ?_
    refine pw_callS (As := [.int _]) h d_X8_high_8 mf_X8_isPlace st_yX8_isPlace ml_RX8_112 ⟨by decide, by decide, by decide⟩ rfl rfl (Nat.le_of_ble_eq_true rfl) c_X8_isPlace ?_
    refine PKk.ret ?_
    refine pw_if_eq 24 h d_X8_high_11 (by decide) (fun c_11 => ?_) (fun c_11 => ?_)
    · skip
      rw [bI_1] at c_11
      refine pw_ldc2 h d_X8_high_24 ck_RX8_290 ?_
      refine pw_lret h hr d_X8_high_27 (by decide) (by decide) ?_
      refine ⟨rfl, rfl, frMI_0, frML_0, ifA_f ?_ rfl⟩
      first | (simp only [isBn, c_4, Bool.false_and]; done) | (simp only [isBn, c_4, c_11, Bool.false_and, Bool.and_false]; done) | (simp only [isBn, c_4, c_11, c_21, Bool.and_false]; done)
    · skip
      rw [bI_1, Bool.not_eq_false] at c_11
      refine pw_iload_n h 3 d_X8_high_14 rfl ?_
      refine pw_i2l h d_X8_high_15 ?_
      refine pw_lconst (x := 0) h d_X8_high_16 (by decide) ?_
      refine pw_lconst (x := 1) h d_X8_high_17 (by decide) ?_
      refine pw_callS (As := [.long _, .long _, .long _]) h d_X8_high_18 mf_X8_in st_yX8_in ml_RX8_105 ⟨by decide, by decide, by decide⟩ rfl rfl (Nat.le_of_ble_eq_true rfl) (c_X8_inW (a := 0) (b := 1) rfl rfl) ?_
      refine PKk.ret ?_
      refine pw_if_ne 28 h d_X8_high_21 (by decide) (fun c_21 => ?_) (fun c_21 => ?_)
      · skip
        rw [bI_1, Bool.not_eq_false] at c_21
        have hx0 := isW_ix (N := 4) c_4 rfl (by decide)
        have hst := px_ix_lt hx0
        have est : v = nI v.toNatClampNeg := px_ix_eq hx0
        have hpx := isW_ix (N := 13) c_11 rfl (by decide)
        have hp13 := px_ix_lt hpx
        have epx : p = nI p.toNatClampNeg := px_ix_eq hpx
        refine pw_aload_n h 0 d_X8_high_28 rfl ?_
        refine pw_iload_n h 1 d_X8_high_29 rfl ?_
        refine pw_iconst (x := (-1)) h d_X8_high_30 (by decide) ?_
        refine pw_iconst (x := 0) h d_X8_high_31 (by decide) ?_
        refine pw_callV (As := [.int _, .int _, .int _]) h d_X8_high_32 mf_X8_stands mi_X8_stands ml_RX8_292 ⟨by decide, by decide, by decide⟩ (by assumption) rfl rfl (Nat.le_of_ble_eq_true rfl) trivial (c_X8_stands hM0 hm a hst est (std_A a _ _ (-4)) (by decide)) ?_
        intro ret1 sh1 I1 L1 R1_ hp1
        obtain ⟨e0, e1, eR, eL, fs1, hc1, hj1⟩ := hp1
        subst e0
        have e1 := e1.symm
        have eR := eR.symm
        have eL := eL.symm
        subst e1
        subst eR
        subst eL
        refine ⟨rfl, ?_⟩
        have fM1 : frMI m I I1 := frMI_S fs1
        have hm1 := MSm_MI hm fM1
        refine pw_aload_n h 0 d_X8_high_35 rfl ?_
        refine pw_callV (As := []) h d_X8_high_36 mf_X8_rests mi_X8_rests ml_RX8_296 ⟨by decide, by decide, by decide⟩ (by assumption) rfl rfl (Nat.le_of_ble_eq_true rfl) trivial (c_X8_rests hM0 hc1 (okA_S a hst)) ?_
        intro ret2 sh2 I2 L2 R2 hp2
        obtain ⟨e1, eR, fr2, g2, hres2⟩ := hp2
        have e1 := e1.symm
        have eR := eR.symm
        subst e1
        subst eR
        obtain ⟨x2, ex2, hx1, hx2⟩ := rsm_or (by omega) hres2
        subst ex2
        have fM2 : frMI m I I2 := frMI_t fM1 (frMI_C fr2)
        have hm2 := MSm_MI hm fM2
        have fL2 : frML m L L2 := frML_G g2
        refine ⟨rfl, ?_⟩
        refine pw_if_ge 46 h d_X8_high_39 (by decide) (fun c_39 => ?_) (fun c_39 => ?_)
        · skip
          obtain ⟨c, hc, ec, hS, hlo⟩ := hx1 c_39
          have h2 := fir_2 (show aN A ≤ 7 by omega) hc
          have hB := okS_B (okA_S a hst) h2
          obtain ⟨f, D, hF, hf1, hf2, hf3, hDQ, hD, hDl⟩ := f6_ok2 hB hS
          refine pw_aload_n h 0 d_X8_high_46 rfl ?_
          refine pw_iload_n h 2 d_X8_high_47 rfl ?_
          refine pw_callV (As := [.int _]) h d_X8_high_48 mf_X8_height mi_X8_height ml_RX8_277 ⟨by decide, by decide, by decide⟩ (by assumption) rfl rfl (Nat.le_of_ble_eq_true rfl) trivial (c_X8_height hM0 hB hS hlo hDQ hD hDl hf3 hf1 hf2 epx (by omega)) ?_
          intro ret3 sh3 I3 L3 R3_ hp3
          obtain ⟨e0, e1, eR, eI, f3, p3⟩ := hp3
          subst e0
          have e1 := e1.symm
          have eR := eR.symm
          have eI := eI.symm
          subst e1
          subst eR
          subst eI
          refine ⟨rfl, ?_⟩
          have r3 := p3.1
          rw [hei_eq hB.1 hF hf1] at r3
          refine pw_aload_n h 0 d_X8_high_51 rfl ?_
          refine pw_iload_n h 3 d_X8_high_52 rfl ?_
          refine pw_callV (As := [.int _]) h d_X8_high_53 mf_X8_part mi_X8_part ml_RX8_305 ⟨by decide, by decide, by decide⟩ (by assumption) rfl rfl (Nat.le_of_ble_eq_true rfl) trivial (c_X8_part hM0 _) ?_
          refine PKk.ret ?_
          refine pw_lret h hr d_X8_high_56 (by decide) (by decide) ?_
          exact ⟨rfl, rfl, fM2, frML_t fL2 (frML_U f3), ifA_t (by simp only [isBn, c_4, c_11, c_21, Bool.and_self]) (Or.inl ⟨c, hc, congrArg (fun z => some (Value.long z)) (RF_ans r3 w)⟩)⟩
        · skip
          refine pw_ldc2 h d_X8_high_42 ck_RX8_299 ?_
          refine pw_lret h hr d_X8_high_45 (by decide) (by decide) ?_
          exact ⟨rfl, rfl, fM2, fL2, ifA_t (by simp only [isBn, c_4, c_11, c_21, Bool.and_self]) (Or.inr ⟨hx2 c_39, rfl⟩)⟩
      · skip
        rw [bI_1] at c_21
        refine pw_ldc2 h d_X8_high_24 ck_RX8_290 ?_
        refine pw_lret h hr d_X8_high_27 (by decide) (by decide) ?_
        refine ⟨rfl, rfl, frMI_0, frML_0, ifA_f ?_ rfl⟩
        first | (simp only [isBn, c_4, Bool.false_and]; done) | (simp only [isBn, c_4, c_11, Bool.false_and, Bool.and_false]; done) | (simp only [isBn, c_4, c_11, c_21, Bool.and_false]; done)
