set_option maxHeartbeats 4000000 in
set_option maxRecDepth 100000 in
theorem c_X7_jack {sh : Sh} {I : IM} {L : LM} {R : RM} (hCl : ClsF sh R) {A : LA} (hm : CLm I A) (a : okA A) (hr0 : CRest I L A) (s p v w : Int32) : PMet M_X7_jack [.ref 0, .int s, .int p, .int v, .int w] sh I L R (obs sh I L R A (fun ret => ifA (isW s 0 3 && isW p 0 12 && isW w 0 1 && isW v (-90) 90 && (srch (I 2) p (aN A)).isNone) (rsJ A s.toNatClampNeg p.toNatClampNeg v.toInt (fun c => ret = some (.long (ansL (qJk A s.toNatClampNeg p.toNatClampNeg v.toInt c) w))) (ret = refL (-2))) (ret = refL (-1)))) := by
  refine PMet.of mf_X7_jack (Nat.le_of_ble_eq_true rfl) ?_
  intro X h hr hml
  have hml : (xc X).maxLocals = 6 := hml
  have h : PXok X RX7 cX7_jack 6 0 0 := h
  have hr : PXr X (some .long) "jack" _ 0 0 := hr
  have hCl := hCl
  obtain ⟨hC, hB21, hB33, hQ, hPl⟩ := id hCl
  have hC0 := hC
  obtain ⟨k0, r0, r1, r2, r4, r5, r6, r7, r8, r13, r15, r16, hL, k7, r7s, k8s, k12, k20, r20s, hSs, k71, k72⟩ := hC
  have hL0 := hL
  obtain ⟨f0, f1, f2, f3, f4, f5, g1, g2, g3, g4, g5⟩ := hL
  have hQ0 := hQ
  obtain ⟨q0, q1, hB45, q13, q14, q15, p2, p3, p4⟩ := id hQ
  have hn := hm.1
  have h6 := a.1
  have k46 := hB45.1
  have k21 := hB21.1
  have k33 := hB33.1
  show PW X 0 [(0, .ref 0), (1, .int s), (2, .int p), (3, .int v), (4, .int w)] [] sh I L R 0 0
  refine pw_iload_n h 1 d_X7_jack_0 rfl ?_
  refine pw_callS (As := [.int _]) h d_X7_jack_1 mf_X7_isState st_yX7_isState ml_RX7_132 ⟨by decide, by decide, by decide⟩ rfl rfl (Nat.le_of_ble_eq_true rfl) c_X7_isState ?_
  refine PKk.ret ?_
  refine pw_if_eq 22 h d_X7_jack_4 (by decide) (fun c_4 => ?_) (fun c_4 => ?_)
  · skip
    rw [bI_1] at c_4
    refine pw_iconst (x := (-1)) h d_X7_jack_22 (by decide) ?_
    refine pw_callS (As := [.int _]) h d_X7_jack_23 mf_X7_refusal st_yX7_refusal ml_RX7_185 ⟨by decide, by decide, by decide⟩ rfl rfl (Nat.le_of_ble_eq_true rfl) c_X7_refusal ?_
    refine PKk.ret ?_
    refine pw_lret h hr d_X7_jack_26 (by decide) (by decide) ?_
    refine ⟨rfl, rfl, frB_0, frBL_0, hr0, ifA_f ?_ rfl⟩
    first | (simp only [c_4, Bool.false_and]; done) | (simp only [c_4, c_11, Bool.false_and, Bool.and_false]; done) | (simp only [c_4, c_11, c_19, Bool.false_and, Bool.and_false]; done)
  · skip
    rw [bI_1, Bool.not_eq_false] at c_4
    refine pw_iload_n h 2 d_X7_jack_7 rfl ?_
    refine pw_callS (As := [.int _]) h d_X7_jack_8 mf_X7_isPlace st_yX7_isPlace ml_RX7_93 ⟨by decide, by decide, by decide⟩ rfl rfl (Nat.le_of_ble_eq_true rfl) c_X7_isPlace ?_
    refine PKk.ret ?_
    refine pw_if_eq 22 h d_X7_jack_11 (by decide) (fun c_11 => ?_) (fun c_11 => ?_)
    · skip
      rw [bI_1] at c_11
      refine pw_iconst (x := (-1)) h d_X7_jack_22 (by decide) ?_
      refine pw_callS (As := [.int _]) h d_X7_jack_23 mf_X7_refusal st_yX7_refusal ml_RX7_185 ⟨by decide, by decide, by decide⟩ rfl rfl (Nat.le_of_ble_eq_true rfl) c_X7_refusal ?_
      refine PKk.ret ?_
      refine pw_lret h hr d_X7_jack_26 (by decide) (by decide) ?_
      refine ⟨rfl, rfl, frB_0, frBL_0, hr0, ifA_f ?_ rfl⟩
      first | (simp only [c_4, Bool.false_and]; done) | (simp only [c_4, c_11, Bool.false_and, Bool.and_false]; done) | (simp only [c_4, c_11, c_19, Bool.false_and, Bool.and_false]; done)
    · skip
      rw [bI_1, Bool.not_eq_false] at c_11
      refine pw_iload h 4 d_X7_jack_14 rfl ?_
      refine pw_callS (As := [.int _]) h d_X7_jack_16 mf_X7_isPart st_yX7_isPart ml_RX7_182 ⟨by decide, by decide, by decide⟩ rfl rfl (Nat.le_of_ble_eq_true rfl) c_X7_isPart ?_
      refine PKk.ret ?_
      refine pw_if_ne 27 h d_X7_jack_19 (by decide) (fun c_19 => ?_) (fun c_19 => ?_)
      · skip
        rw [bI_1, Bool.not_eq_false] at c_19
        have hx0 := isW_ix (N := 4) c_4 rfl (by decide)
        have hst := px_ix_lt hx0
        have est : s = nI s.toNatClampNeg := px_ix_eq hx0
        have hpx := isW_ix (N := 13) c_11 rfl (by decide)
        have hp13 := px_ix_lt hpx
        have epx : p = nI p.toNatClampNeg := px_ix_eq hpx
        refine pw_iload_n h 3 d_X7_jack_27 rfl ?_
        refine pw_bipush (x := (-90)) h d_X7_jack_28 (by decide) ?_
        refine pw_bipush (x := 90) h d_X7_jack_30 (by decide) ?_
        refine pw_callS (As := [.int _, .int _, .int _]) h d_X7_jack_32 mf_X7_isWithin st_yX7_isWithin ml_RX7_97 ⟨by decide, by decide, by decide⟩ rfl rfl (Nat.le_of_ble_eq_true rfl) c_X7_isWithin ?_
        refine PKk.ret ?_
        refine pw_if_eq 49 h d_X7_jack_35 (by decide) (fun c_35 => ?_) (fun c_35 => ?_)
        · skip
          rw [bI_1] at c_35
          refine pw_iconst (x := (-1)) h d_X7_jack_49 (by decide) ?_
          refine pw_callS (As := [.int _]) h d_X7_jack_50 mf_X7_refusal st_yX7_refusal ml_RX7_185 ⟨by decide, by decide, by decide⟩ rfl rfl (Nat.le_of_ble_eq_true rfl) c_X7_refusal ?_
          refine PKk.ret ?_
          refine pw_lret h hr d_X7_jack_53 (by decide) (by decide) ?_
          refine ⟨rfl, rfl, frB_0, frBL_0, hr0, ifA_f ?_ rfl⟩
          first | (simp only [c_35, Bool.false_and, Bool.and_false]; done) | (simp only [hsn, Bool.and_false]; done)
        · skip
          rw [bI_1, Bool.not_eq_false] at c_35
          refine pw_aload_n h 0 d_X7_jack_38 rfl ?_
          refine pw_getR (j := 1) 7 h d_X7_jack_39 fd_RX7_12 (by assumption) rfl (by assumption) ?_
          refine pw_iload_n h 2 d_X7_jack_42 rfl ?_
          refine pw_callV (As := [.int _]) h d_X7_jack_43 mf_X2_bearingAt mi_X2_bearingAt ml_RX7_101 ⟨by decide, by decide, by decide⟩ (by assumption) rfl rfl (Nat.le_of_ble_eq_true rfl) trivial (c_X2_bearingAt hL0 (n := aN A) hm.1 h6 p) ?_
          refine PKk.ret ?_
          refine pw_if_lt 54 h d_X7_jack_46 (by decide) (fun c_46 => ?_) (fun c_46 => ?_)
          · skip
            rw [srch_neg (show aN A < 2 ^ 31 by omega) (show ((-1 : Int32)).toInt < 0 by decide)] at c_46
            have hsn0 : (srch (I 2) p (aN A)).isNone = true := c_46
            have hsn := hsn0
            rw [epx] at hsn
            have hno := (srch_Q hp13 hm.2.1 a.2.1.1).mp hsn
            have hv90 := k_isW (c := -90) (d := 90) c_35 rfl rfl
            have hjm : jkM A p.toNatClampNeg ≤ aN A := cntN_le _
            refine pw_aload_n h 0 d_X7_jack_54 rfl ?_
            refine pw_iconst (x := (-1)) h d_X7_jack_55 (by decide) ?_
            refine pw_putI 7 h d_X7_jack_56 fd_RX7_59 (by assumption) rfl rfl rfl rfl ?_
            obtain ⟨I0, eI0⟩ : ∃ I0, I0 = u2 I 0 9 (-1) := ⟨_, rfl⟩
            refine pw_mem (I' := I0) eI0.symm rfl rfl ?_
            have fK0 : frK I I0 := fun a k c1 c2 => by rw [eI0]; unfold u2; rw [if_neg (by omega)]
            have hm0 : CLm I0 A := CLm_K hm fK0
            have h90 : I0 0 9 = -1 := by rw [eI0, u2_s]
            refine pw_aload_n h 0 d_X7_jack_59 rfl ?_
            refine pw_getR (j := 1) 7 h d_X7_jack_60 fd_RX7_12 (by assumption) rfl (by assumption) ?_
            refine pw_iload_n h 2 d_X7_jack_63 rfl ?_
            refine pw_callV (As := [.int _]) h d_X7_jack_64 mf_X2_bearingsBelow mi_X2_bearingsBelow ml_RX7_244 ⟨by decide, by decide, by decide⟩ (by assumption) rfl rfl (Nat.le_of_ble_eq_true rfl) trivial (c_X2_bearingsBelow hL0 (n := aN A) hm0.1 h6 p) ?_
            refine PKk.ret ?_
            refine pw_nmI (fun v5_67 e5_67 => ?_)
            refine pw_istore (lv' := [(5, .int v5_67), (0, .ref 0), (1, .int s), (2, .int p), (3, .int v), (4, .int w)]) h d_X7_jack_67 _ hml (by decide) rfl ?_
            have e5 : v5_67 = nI (jkM A p.toNatClampNeg) := by rw [e5_67]; congr 1; have := cntL_N (f := I0 2) hp13 (aN A) hm0.2.1 a.2.1.1; rw [← epx] at this; exact this
            refine pw_aload_n h 1 d_X7_jack_69 rfl ?_
            refine pw_getR (j := 45) 7 h d_X7_jack_70 fd_RX7_55 (by assumption) rfl (by assumption) ?_
            refine pw_aload_n h 1 d_X7_jack_73 rfl ?_
            refine pw_getR (j := 1) 7 h d_X7_jack_74 fd_RX7_12 (by assumption) rfl (by assumption) ?_
            refine pw_getI 2 h d_X7_jack_77 fd_RX7_129 (by assumption) rfl ?_
            refine pw_aload_n h 1 d_X7_jack_80 rfl ?_
            refine pw_getR (j := 1) 7 h d_X7_jack_81 fd_RX7_12 (by assumption) rfl (by assumption) ?_
            refine pw_getR (j := 6) 2 h d_X7_jack_84 fd_RX7_126 (by assumption) rfl (by assumption) ?_
            refine pw_callV (As := [.int _, .ref 6]) h d_X7_jack_87 mf_X5_start mi_X5_start ml_RX7_247 ⟨by decide, by decide, by decide⟩ (by assumption) rfl rfl (Nat.le_of_ble_eq_true rfl) trivial (c_X5_start hQ0 (w := 6) f5 _) ?_
            intro ret1 sh1 I1 L1 R1 hp1
            obtain ⟨e0, e1, eI, eL, eR⟩ := hp1
            subst e0
            have e1 := e1.symm
            have eR := eR.symm
            subst e1
            subst eR
            refine ⟨rfl, ?_⟩
            have hR1 : RestI I1 L1 45 0 (jkQ A p.toNatClampNeg) (jkH A s.toNatClampNeg p.toNatClampNeg v.toInt) (wgt A) (stf A) := by rw [eI, eL]; exact st_rest hm0 a _ _
            have fK1 : frK I0 I1 := by rw [eI]; exact st_frK
            have fL1 : frKL L L1 := by rw [eL]; exact st_frL
            have hm1 : CLm I1 A := CLm_K hm0 fK1
            have h91 : I1 0 9 = -1 := by rw [eI, u2_n1 (by decide), u2_n1 (by decide)]; exact h90
            clear eI eL
            refine pw_aload_n h 1 d_X7_jack_90 rfl ?_
            refine pw_iload_n h 2 d_X7_jack_91 rfl ?_
            refine pw_iconst (x := 0) h d_X7_jack_92 (by decide) ?_
            refine pw_iload h 0 d_X7_jack_93 rfl ?_
            refine pw_callV (As := [.int _, .int _, .int _]) h d_X7_jack_95 mf_X7_putBearings mi_X7_putBearings ml_RX7_250 ⟨by decide, by decide, by decide⟩ (by assumption) rfl rfl (Nat.le_of_ble_eq_true rfl) trivial (c_X7_putBearings hC0 hQ0 (s' := s.toNatClampNeg) (fr := 0) (t := (jkM A p.toNatClampNeg)) (n0 := 0) hx0 rfl e5 (Nat.zero_le _) (by omega) hR1.1 (by omega) (fun k hk => cl_q hm1 a k (by omega))) ?_
            intro ret2 sh2 I2 L2 R2 hp2
            obtain ⟨e0, e1, eI, eL, eR⟩ := hp2
            subst e0
            have e1 := e1.symm
            have eR := eR.symm
            subst e1
            subst eR
            refine ⟨rfl, ?_⟩
            have hR2 : RestI I2 L2 45 (jkM A p.toNatClampNeg) (jkQ A p.toNatClampNeg) (jkH A s.toNatClampNeg p.toNatClampNeg v.toInt) (wgt A) (stf A) := by rw [eI, eL]; exact jk_pb1 hm1 a hst hR1
            have fK2 : frK I0 I2 := frK_t fK1 (by rw [eI]; exact frK_pb)
            have fL2 : frKL L L2 := by rw [eL]; exact fL1
            have h92 : I2 0 9 = -1 := by rw [eI, pbI_o (by decide) (by decide) (by decide)]; exact h91
            clear eI eL
            refine pw_aload_n h 1 d_X7_jack_98 rfl ?_
            refine pw_getR (j := 45) 7 h d_X7_jack_99 fd_RX7_55 (by assumption) rfl (by assumption) ?_
            refine pw_iload_n h 3 d_X7_jack_102 rfl ?_
            refine pw_iload_n h 4 d_X7_jack_103 rfl ?_
            refine pw_callV (As := [.int _, .int _]) h d_X7_jack_104 mf_X5_put mi_X5_put ml_RX7_254 ⟨by decide, by decide, by decide⟩ (by assumption) rfl rfl (Nat.le_of_ble_eq_true rfl) trivial (c_X5_put hQ0 (n := (jkM A p.toNatClampNeg)) hR2.1 (by omega) _ _) ?_
            intro ret3 sh3 I3 L3 R3 hp3
            obtain ⟨e0, e1, eI, eL, eR⟩ := hp3
            subst e0
            have e1 := e1.symm
            have eR := eR.symm
            subst e1
            subst eR
            refine ⟨rfl, ?_⟩
            have hR3 : RestI I3 L3 45 ((jkM A p.toNatClampNeg) + 1) (jkQ A p.toNatClampNeg) (jkH A s.toNatClampNeg p.toNatClampNeg v.toInt) (wgt A) (stf A) := by rw [eI, eL, if_pos (by omega)]; exact rs_put hR2 (by unfold jkQ; rw [insG_m]; exact epx) (by unfold jkH; rw [insG_m])
            have fK3 : frK I0 I3 := frK_t fK2 (by rw [eI, if_pos (by omega)]; exact put_frK)
            have fL3 : frKL L L3 := by rw [eL]; exact fL2
            have hm3 : CLm I3 A := CLm_K hm0 fK3
            have h93 : I3 0 9 = -1 := by rw [eI, if_pos (by omega), u2_n1 (by decide), u2_n1 (by decide), u2_n1 (by decide)]; exact h92
            clear eI eL
            refine pw_aload_n h 1 d_X7_jack_107 rfl ?_
            refine pw_iload_n h 2 d_X7_jack_108 rfl ?_
            refine pw_iload h 0 d_X7_jack_109 rfl ?_
            refine pw_aload_n h 1 d_X7_jack_111 rfl ?_
            refine pw_getR (j := 1) 7 h d_X7_jack_112 fd_RX7_12 (by assumption) rfl (by assumption) ?_
            refine pw_getI 2 h d_X7_jack_115 fd_RX7_105 (by assumption) rfl ?_
            refine pw_callV (As := [.int _, .int _, .int _]) h d_X7_jack_118 mf_X7_putBearings mi_X7_putBearings ml_RX7_250 ⟨by decide, by decide, by decide⟩ (by assumption) rfl rfl (Nat.le_of_ble_eq_true rfl) trivial (c_X7_putBearings hC0 hQ0 (s' := s.toNatClampNeg) (fr := (jkM A p.toNatClampNeg)) (t := aN A) (n0 := (jkM A p.toNatClampNeg) + 1) hx0 e5 hm3.1 (by omega) h6 hR3.1 (by omega) (cl_q hm3 a)) ?_
            intro ret4 sh4 I4 L4 R4 hp4
            obtain ⟨e0, e1, eI, eL, eR⟩ := hp4
            subst e0
            have e1 := e1.symm
            have eR := eR.symm
            subst e1
            subst eR
            refine ⟨rfl, ?_⟩
            have hR4 : RestI I4 L4 45 (aN A + 1) (jkQ A p.toNatClampNeg) (jkH A s.toNatClampNeg p.toNatClampNeg v.toInt) (wgt A) (stf A) := by rw [eI, eL]; exact jk_pb2 hm3 a hst hR3
            have fK4 : frK I0 I4 := frK_t fK3 (by rw [eI]; exact frK_pb)
            have fL4 : frKL L L4 := by rw [eL]; exact fL3
            have hjo := jk_ok a hst hp13 hno hv90
            have h94 : I4 0 9 = -1 := by rw [eI, pbI_o (by decide) (by decide) (by decide)]; exact h93
            clear eI eL
            refine pw_aload_n h 1 d_X7_jack_121 rfl ?_
            refine pw_getR (j := 45) 7 h d_X7_jack_122 fd_RX7_55 (by assumption) rfl (by assumption) ?_
            refine pw_callV (As := []) h d_X7_jack_125 mf_X5_settle mi_X5_settle ml_RX7_257 ⟨by decide, by decide, by decide⟩ (by assumption) rfl rfl (Nat.le_of_ble_eq_true rfl) trivial (c_X5_settle hQ0 hjo hR4) ?_
            intro ret5 sh5 I5 L5 R5 hp5
            obtain ⟨e1, eR, f5r, f6r, hres⟩ := hp5
            have e1 := e1.symm
            have eR := eR.symm
            subst e1
            subst eR
            obtain ⟨bb, hbb, hb1, hb2⟩ := or_b hres
            subst hbb
            have fK5 : frK I0 I5 := frK_t fK4 (frK_I f5r)
            have fL5 : frKL L L5 := frKL_t fL4 (frK_L f6r)
            have h95 : I5 0 9 = -1 := (f5r 0 9 (by omega) (by omega) (by omega) (by omega)).trans h94
            refine ⟨rfl, ?_⟩
            refine pw_if_ne 137 h d_X7_jack_128 (by decide) (fun c_128 => ?_) (fun c_128 => ?_)
            · skip
              rw [bI_1, Bool.not_eq_false] at c_128
              obtain ⟨c, hc, hS⟩ := hb1 c_128
              have h2 := fir_2 (by omega) hc
              have hx5 : px_ix v5_67 7 (jkM A p.toNatClampNeg) := k_ix e5 (by omega) (by decide)
              refine pw_aload_n h 1 d_X7_jack_137 rfl ?_
              refine pw_getR (j := 71) 7 h d_X7_jack_138 fd_RX7_85 (by assumption) rfl (by assumption) ?_
              refine pw_aload_n h 1 d_X7_jack_141 rfl ?_
              refine pw_getR (j := 45) 7 h d_X7_jack_142 fd_RX7_55 (by assumption) rfl (by assumption) ?_
              refine pw_iload h 0 d_X7_jack_145 rfl ?_
              refine pw_callV (As := [.int _]) h d_X7_jack_147 mf_X5_pushOf mi_X5_pushOf ml_RX7_192 ⟨by decide, by decide, by decide⟩ (by assumption) rfl rfl (Nat.le_of_ble_eq_true rfl) trivial (c_X5_pushOf hQ0 hx5 (rs_seat hjo hS _ (by omega))) ?_
              refine PKk.ret ?_
              refine pw_aload_n h 1 d_X7_jack_150 rfl ?_
              refine pw_getR (j := 45) 7 h d_X7_jack_151 fd_RX7_55 (by assumption) rfl (by assumption) ?_
              refine pw_getR (j := 46) 5 h d_X7_jack_154 fd_RX7_195 (by assumption) rfl (by assumption) ?_
              refine pw_getL 0 h d_X7_jack_157 fd_RX7_196 (by assumption) rfl ?_
              refine pw_callV (As := [.long _, .long _]) h d_X7_jack_160 mf_X1_become mi_X1_become ml_RX7_200 ⟨by decide, by decide, by decide⟩ (by assumption) rfl rfl (Nat.le_of_ble_eq_true rfl) trivial (c_X1_become k71 _ _) ?_
              refine PKk.ret ?_
              refine pw_aload_n h 1 d_X7_jack_163 rfl ?_
              refine pw_getR (j := 71) 7 h d_X7_jack_164 fd_RX7_85 (by assumption) rfl (by assumption) ?_
              refine pw_iload h 5 d_X7_jack_167 rfl ?_
              refine pw_callV (As := [.int _]) h d_X7_jack_169 mf_X1_part mi_X1_part ml_RX7_203 ⟨by decide, by decide, by decide⟩ (by assumption) rfl rfl (Nat.le_of_ble_eq_true rfl) trivial (c_X1_part k71 _) ?_
              refine PKk.ret ?_
              refine pw_lret h hr d_X7_jack_172 (by decide) (by decide) ?_
              refine ⟨rfl, rfl, frB_t (frB_K fK0) (frB_K fK5), frBL_t (frBL_K fL5) be_frL, Or.inl h95, ifA_t (by simp only [c_4, c_11, c_19, c_35, hsn0, Bool.and_self]) (Or.inl ⟨c, hc, ?_⟩)⟩
              exact congrArg (fun z => some (Value.long z)) (ans_G hjo hS h2 (by omega) 71 w)
            · skip
              rw [bI_1] at c_128
              refine pw_bipush (x := (-2)) h d_X7_jack_131 (by decide) ?_
              refine pw_callS (As := [.int _]) h d_X7_jack_133 mf_X7_refusal st_yX7_refusal ml_RX7_185 ⟨by decide, by decide, by decide⟩ rfl rfl (Nat.le_of_ble_eq_true rfl) c_X7_refusal ?_
              refine PKk.ret ?_
              refine pw_lret h hr d_X7_jack_136 (by decide) (by decide) ?_
              exact ⟨rfl, rfl, frB_t (frB_K fK0) (frB_K fK5), frBL_K fL5, Or.inl h95, ifA_t (by simp only [c_4, c_11, c_19, c_35, hsn0, Bool.and_self]) (Or.inr ⟨hb2 c_128, rfl⟩)⟩
          · skip
            rw [srch_neg (show aN A < 2 ^ 31 by omega) (show ((-1 : Int32)).toInt < 0 by decide)] at c_46
            have hsn : (srch (I 2) p (aN A)).isNone = false := Bool.not_eq_true _ ▸ c_46
            refine pw_iconst (x := (-1)) h d_X7_jack_49 (by decide) ?_
            refine pw_callS (As := [.int _]) h d_X7_jack_50 mf_X7_refusal st_yX7_refusal ml_RX7_185 ⟨by decide, by decide, by decide⟩ rfl rfl (Nat.le_of_ble_eq_true rfl) c_X7_refusal ?_
            refine PKk.ret ?_
            refine pw_lret h hr d_X7_jack_53 (by decide) (by decide) ?_
            refine ⟨rfl, rfl, frB_0, frBL_0, hr0, ifA_f ?_ rfl⟩
            first | (simp only [c_35, Bool.false_and, Bool.and_false]; done) | (simp only [hsn, Bool.and_false]; done)
      · skip
        rw [bI_1] at c_19
        refine pw_iconst (x := (-1)) h d_X7_jack_22 (by decide) ?_
        refine pw_callS (As := [.int _]) h d_X7_jack_23 mf_X7_refusal st_yX7_refusal ml_RX7_185 ⟨by decide, by decide, by decide⟩ rfl rfl (Nat.le_of_ble_eq_true rfl) c_X7_refusal ?_
        refine PKk.ret ?_
        refine pw_lret h hr d_X7_jack_26 (by decide) (by decide) ?_
        refine ⟨rfl, rfl, frB_0, frBL_0, hr0, ifA_f ?_ rfl⟩
        first | (simp only [c_4, Bool.false_and]; done) | (simp only [c_4, c_11, Bool.false_and, Bool.and_false]; done) | (simp only [c_4, c_11, c_19, Bool.false_and, Bool.and_false]; done)
