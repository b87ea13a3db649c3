set_option maxHeartbeats 4000000 in
set_option maxRecDepth 100000 in
theorem c_X8_run {sh : Sh} {I : IM} {L : LM} {R : RM} {m : Nat} {A : LA} (hM : ModF sh R m) (hm : MSm I m A) (a : okA A) (v : Int32) : PMet M_X8_run [.ref m, .int v] sh I L R (RunM sh I L R m A v) := by
  refine PMet.of mf_X8_run (Nat.le_of_ble_eq_true rfl) ?_
  intro X h hr hml
  have hml : (xc X).maxLocals = 6 := hml
  have h : PXok X RX8 cX8_run 9 0 0 := h
  have hr : PXr X (some .int) "run" _ 0 0 := hr
  have hM0 := hM
  obtain ⟨f0, f1, f2, f3, f4, f5, f6, f7, f8, f9, f10, f11, f12, f13, f14, f15, f16, f17, f18, f19, f20, f21, f22, f23, f24, f25, f26, f27, g1, g2, g3, g4, g5, g6, g7, g8, g9, g10, g11, g12, g13, g14, g15, g16, g17, g18, g19, g20, g21, g22, g23, g24, g25, g26, g27⟩ := hM
  have hn := hm.1
  have h6 := a.1
  show PW X 0 [(0, .ref m), (1, .int v)] [] sh I L R 0 0
  refine pw_iload_n h 1 d_X8_run_0 rfl ?_
  refine pw_i2l h d_X8_run_1 ?_
  refine pw_lconst (x := 1) h d_X8_run_2 (by decide) ?_
  refine pw_ldc2 h d_X8_run_3 ck_RX8_343 ?_
  refine pw_callS (As := [.long _, .long _, .long _]) h d_X8_run_6 mf_X8_in st_yX8_in ml_RX8_105 ⟨by decide, by decide, by decide⟩ rfl rfl (Nat.le_of_ble_eq_true rfl) (c_X8_inW (a := 1) (b := 1000) rfl rfl) ?_
  refine PKk.ret ?_
  refine pw_if_ne 14 h d_X8_run_9 (by decide) (fun c_9 => ?_) (fun c_9 => ?_)
  · skip
    rw [bI_1, Bool.not_eq_false] at c_9
    refine pw_aload_n h 0 d_X8_run_14 rfl ?_
    refine pw_iconst (x := 0) h d_X8_run_15 (by decide) ?_
    refine pw_iconst (x := (-1)) h d_X8_run_16 (by decide) ?_
    refine pw_iconst (x := 0) h d_X8_run_17 (by decide) ?_
    refine pw_callV (As := [.int _, .int _, .int _]) h d_X8_run_18 mf_X8_stands mi_X8_stands ml_RX8_292 ⟨by decide, by decide, by decide⟩ (by assumption) rfl rfl (Nat.le_of_ble_eq_true rfl) trivial (c_X8_stands hM0 hm a (st := 0) (by decide) rfl (std_A a _ _ (-4)) (by decide)) ?_
    intro ret1 sh1 I1 L1 R1_ hp1
    obtain ⟨e0, e1, eR, eL, fs1, hc1, hj1⟩ := hp1
    subst e0
    have e1 := e1.symm
    have eR := eR.symm
    have eL := eL.symm
    subst e1
    subst eR
    subst eL
    refine ⟨rfl, ?_⟩
    have fM1 : frMI m I I1 := frMI_S fs1
    have hm1 := MSm_MI hm fM1
    refine pw_aload_n h 0 d_X8_run_21 rfl ?_
    refine pw_callV (As := []) h d_X8_run_22 mf_X8_rests mi_X8_rests ml_RX8_296 ⟨by decide, by decide, by decide⟩ (by assumption) rfl rfl (Nat.le_of_ble_eq_true rfl) trivial (c_X8_rests hM0 hc1 (okA_S a (show 0 < 4 by decide))) ?_
    intro ret2 sh2 I2 L2 R2 hp2
    obtain ⟨e1, eR, fr2, g2, hres2⟩ := hp2
    have e1 := e1.symm
    have eR := eR.symm
    subst e1
    subst eR
    obtain ⟨x2, ex2, hx1, hx2⟩ := rsm_or (by omega) hres2
    subst ex2
    have fM2 : frMI m I I2 := frMI_t fM1 (frMI_C fr2)
    have hm2 := MSm_MI hm fM2
    have fL2 : frML m L L2 := frML_G g2
    refine ⟨rfl, ?_⟩
    refine pw_nmI (fun v2_25 e2_25 => ?_)
    refine pw_istore_n (lv' := [(2, .int v2_25), (0, .ref m), (1, .int v)]) h d_X8_run_25 rfl _ hml (by decide) rfl ?_
    refine pw_iload_n h 0 d_X8_run_26 rfl ?_
    refine pw_if_ge 33 h d_X8_run_27 (by decide) (fun c_27 => ?_) (fun c_27 => ?_)
    · skip
      rw [e2_25] at c_27
      obtain ⟨c, hc, ec, hS, hlo⟩ := hx1 c_27
      have h2 := fir_2 (show aN A ≤ 7 by omega) hc
      have ev_ : v2_25 = nI (rvN (aN A) c) := e2_25.trans ec
      have hsel := sel_v (show aN A ≤ 7 by omega) hc.1 ev_
      refine pw_iconst (x := 0) h d_X8_run_33 (by decide) ?_
      refine pw_nmI (fun v3_34 e3_34 => ?_)
      refine pw_istore_n (lv' := [(3, .int v3_34), (2, .int v2_25), (0, .ref m), (1, .int v)]) h d_X8_run_34 rfl _ hml (by decide) rfl ?_
      refine pw_iconst (x := 0) h d_X8_run_35 (by decide) ?_
      refine pw_nmI (fun v4_36 e4_36 => ?_)
      refine pw_istore (lv' := [(4, .int v4_36), (3, .int v3_34), (2, .int v2_25), (0, .ref m), (1, .int v)]) h d_X8_run_36 _ hml (by decide) rfl ?_
      have cut_38 : ∀ (N k : Nat) (y u : Int32) (I3 : IM) (L3 : LM), aN A < k + N → k ≤ aN A → u = nI k → y = nI (cntS (lessM I2 m (hrA A (setA A c) v)) k) → I3 = runM I2 m (hrA A (setA A c) v) k → frML m L L3 → loF L3 m (cntS (setA A c) (aN A) - 2) (lyN (setA A c) (aQ A) (aN A)) (lyQ (setA A c) (hgt A 0) (aN A)) (wgt A) (stf A) → PW X 38 [(0, .ref m), (1, .int v), (2, .int v2_25), (3, .int y), (4, .int u)] [] sh I3 L3 R 0 0 := by
        intro N
        induction N with
        | zero => intros; omega
        | succ N ih =>
          intro k y u I3 L3 hN hk ek ey hI3 fL3 hlo3
          have n3 : I3 m 0 = nI (aN A) := by rw [hI3, runM_o (by omega) (by omega)]; exact hm2.1
          have hS3 : SolM I3 m (cntS (setA A c) (aN A) - 2) (lyN (setA A c) (aQ A) (aN A)) (lyQ (setA A c) (hgt A 0) (aN A)) (wgt A) (stf A) := by rw [hI3]; exact SolM_fr hS (fun a j q8 q9 => runM_o q8 q9)
          refine pw_iload h 4 d_X8_run_38 rfl ?_
          refine pw_aload_n h 0 d_X8_run_40 rfl ?_
          refine pw_getI 8 h d_X8_run_41 fd_RX8_109 (by assumption) rfl ?_
          refine pw_icmp_ge 169 h d_X8_run_44 (by decide) (fun c_44 => ?_) (fun c_44 => ?_)
          · skip
            have hge : aN A ≤ k := k_ge ek n3 (by omega) (by omega) c_44
            have e9 : k = aN A := by omega
            refine pw_iload_n h 3 d_X8_run_169 rfl ?_
            refine pw_iret h hr d_X8_run_170 rfl (by decide) (by decide) ?_
            refine ⟨rfl, rfl, fL3, ifA_t c_9 (Or.inl ⟨c, hc, ?_, ?_⟩)⟩
            · rw [ey, e9, lessM_MI fM2]
            · rw [hI3, e9]; exact runM_MI fM2
          · skip
            have hkl : k < aN A := k_lt ek n3 (by omega) (by omega) c_44
            have hxk : px_ix u 6 k := k_ix ek (by omega) (by decide)
            refine pw_aload_n h 0 d_X8_run_47 rfl ?_
            refine pw_iload_n h 2 d_X8_run_48 rfl ?_
            refine pw_iload h 4 d_X8_run_49 rfl ?_
            refine pw_callV (As := [.int _, .int _]) h d_X8_run_51 mf_X8_loadOf mi_X8_loadOf ml_RX8_301 ⟨by decide, by decide, by decide⟩ (by assumption) rfl rfl (Nat.le_of_ble_eq_true rfl) trivial (c_X8_loadOf hM0 (okA_S a (show 0 < 4 by decide)) h2 hS3 hlo3 hsel ek hkl) ?_
            intro ret4 sh4 I4 L4 R4_ hp4
            obtain ⟨e0, e1, eR, eI, f4, r4⟩ := hp4
            subst e0
            have e1 := e1.symm
            have eR := eR.symm
            have eI := eI.symm
            subst e1
            subst eR
            subst eI
            refine ⟨rfl, ?_⟩
            refine pw_aload_n h 0 d_X8_run_54 rfl ?_
            refine pw_getR (j := (m + 3)) 8 h d_X8_run_55 fd_RX8_16 (by assumption) rfl (by assumption) ?_
            refine pw_iload h 4 d_X8_run_58 rfl ?_
            refine pw_dup2RI h d_X8_run_60 ?_
            refine pw_iald h d_X8_run_61 (by assumption) (by assumption) ?_
            refine pw_iload_n h 1 d_X8_run_62 rfl ?_
            refine pw_aload_n h 0 d_X8_run_63 rfl ?_
            refine pw_getL 8 h d_X8_run_64 fd_RX8_202 (by assumption) rfl ?_
            refine pw_aload_n h 0 d_X8_run_67 rfl ?_
            refine pw_getL 8 h d_X8_run_68 fd_RX8_44 (by assumption) rfl ?_
            refine pw_ldiv h d_X8_run_71 (RF_ne r4) ?_
            refine pw_l2i h d_X8_run_72 ?_
            refine pw_imul h d_X8_run_73 ?_
            refine pw_iadd h d_X8_run_74 ?_
            refine pw_iast h d_X8_run_75 (by assumption) (by assumption) ?_
            obtain ⟨I4, eI4⟩ : ∃ I4, I4 = u2 I3 (m + 3) k (I3 (m + 3) k + v * (L4 m 17 / L4 m 18).toInt32) := ⟨_, rfl⟩
            refine pw_mem (I' := I4) eI4.symm rfl rfl ?_
            have w4 : I4 (m + 3) k = I2 (m + 3) k + (hrA A (setA A c) v) k := by rw [eI4, u2_s, hI3, runM_k, hr_M r4]
            have o4 : I4 (m + 2) k = I2 (m + 2) k := by rw [eI4, u2_n1 (by omega), hI3, runM_k]
            refine pw_aload_n h 0 d_X8_run_76 rfl ?_
            refine pw_getR (j := (m + 2)) 8 h d_X8_run_77 fd_RX8_13 (by assumption) rfl (by assumption) ?_
            refine pw_iload h 4 d_X8_run_80 rfl ?_
            refine pw_iald h d_X8_run_82 (by assumption) (by assumption) ?_
            refine pw_nmI (fun v5_83 e5_83 => ?_)
            refine pw_istore (lv' := [(5, .int v5_83), (0, .ref m), (1, .int v), (2, .int v2_25), (3, .int y), (4, .int u)]) h d_X8_run_83 _ hml (by decide) rfl ?_
            refine pw_aload_n h 1 d_X8_run_85 rfl ?_
            refine pw_getR (j := (m + 2)) 8 h d_X8_run_86 fd_RX8_13 (by assumption) rfl (by assumption) ?_
            refine pw_iload h 5 d_X8_run_89 rfl ?_
            refine pw_iload h 0 d_X8_run_91 rfl ?_
            refine pw_aload_n h 1 d_X8_run_93 rfl ?_
            refine pw_getR (j := (m + 3)) 8 h d_X8_run_94 fd_RX8_16 (by assumption) rfl (by assumption) ?_
            refine pw_iload h 5 d_X8_run_97 rfl ?_
            refine pw_iald h d_X8_run_99 (by assumption) (by assumption) ?_
            refine pw_sipush (x := 10000) h d_X8_run_100 (by decide) ?_
            refine pw_idiv h d_X8_run_103 (by decide) ?_
            refine pw_isub h d_X8_run_104 ?_
            refine pw_bipush (x := (-50)) h d_X8_run_105 (by decide) ?_
            refine pw_icmp_ge 115 h d_X8_run_107 (by decide) (fun c_107 => ?_) (fun c_107 => ?_)
            · skip
              have c107 : -50 ≤ v5_83 - I4 (m + 3) k / 10000 := c_107
              refine pw_iload h 0 d_X8_run_115 rfl ?_
              refine pw_aload_n h 1 d_X8_run_117 rfl ?_
              refine pw_getR (j := (m + 3)) 8 h d_X8_run_118 fd_RX8_16 (by assumption) rfl (by assumption) ?_
              refine pw_iload h 5 d_X8_run_121 rfl ?_
              refine pw_iald h d_X8_run_123 (by assumption) (by assumption) ?_
              refine pw_sipush (x := 10000) h d_X8_run_124 (by decide) ?_
              refine pw_idiv h d_X8_run_127 (by decide) ?_
              refine pw_isub h d_X8_run_128 ?_
              refine pw_iast h d_X8_run_129 (by assumption) (by assumption) ?_
              obtain ⟨I5, eI5⟩ : ∃ I5, I5 = u2 I4 (m + 2) k (v5_83 - I4 (m + 3) k / 10000) := ⟨_, rfl⟩
              refine pw_mem (I' := I5) eI5.symm rfl rfl ?_
              have ho : (v5_83 - I4 (m + 3) k / 10000) = wearO (I2 (m + 2) k) (I4 (m + 3) k) := by rw [← o4, ← e5_83]; exact wearO_t c107
              have w5 : I5 (m + 3) k = I4 (m + 3) k := by rw [eI5, u2_n1 (by omega)]
              have o5 : I5 (m + 2) k = wearO (I2 (m + 2) k) (I4 (m + 3) k) := by rw [eI5, u2_s, ho]
              refine pw_aload_n h 1 d_X8_run_130 rfl ?_
              refine pw_getR (j := (m + 3)) 8 h d_X8_run_131 fd_RX8_16 (by assumption) rfl (by assumption) ?_
              refine pw_iload h 5 d_X8_run_134 rfl ?_
              refine pw_dup2RI h d_X8_run_136 ?_
              refine pw_iald h d_X8_run_137 (by assumption) (by assumption) ?_
              refine pw_sipush (x := 10000) h d_X8_run_138 (by decide) ?_
              refine pw_irem h d_X8_run_141 (by decide) ?_
              refine pw_iast h d_X8_run_142 (by assumption) (by assumption) ?_
              obtain ⟨I6, eI6⟩ : ∃ I6, I6 = u2 I5 (m + 3) k (I5 (m + 3) k - I5 (m + 3) k / 10000 * 10000) := ⟨_, rfl⟩
              refine pw_mem (I' := I6) eI6.symm rfl rfl ?_
              have o6 : I6 (m + 2) k = wearO (I2 (m + 2) k) (I4 (m + 3) k) := by rw [eI6, u2_n1 (by omega)]; exact o5
              have hI6 : I6 = runM I2 m (hrA A (setA A c) v) (k + 1) := by rw [eI6]; exact runM_s hI3 (w := I4 (m + 3) k) (by rw [eI4, u2_s]) w4 eI5 (ho) (by rw [w5]; exact wearW_eq)
              have e5o : v5_83 = I2 (m + 2) k := e5_83.trans o4
              refine pw_iload_n h 4 d_X8_run_143 rfl ?_
              refine pw_aload_n h 1 d_X8_run_144 rfl ?_
              refine pw_getR (j := (m + 2)) 8 h d_X8_run_145 fd_RX8_13 (by assumption) rfl (by assumption) ?_
              refine pw_iload h 5 d_X8_run_148 rfl ?_
              refine pw_iald h d_X8_run_150 (by assumption) (by assumption) ?_
              refine pw_iload h 0 d_X8_run_151 rfl ?_
              refine pw_icmp_ge 160 h d_X8_run_153 (by decide) (fun c_153 => ?_) (fun c_153 => ?_)
              · skip
                have c153 : ¬ I6 (m + 2) k < I2 (m + 2) k := by rw [← e5o]; exact Int32.not_lt.mpr c_153
                refine pw_iconst (x := 0) h d_X8_run_160 (by decide) ?_
                refine pw_iadd h d_X8_run_161 ?_
                refine pw_nmI (fun v3_162 e3_162 => ?_)
                refine pw_istore_n (lv' := [(3, .int v3_162), (5, .int v5_83), (0, .ref m), (1, .int v), (2, .int v2_25), (4, .int u)]) h d_X8_run_162 rfl _ hml (by decide) rfl ?_
                obtain ⟨v4_163, e4_163⟩ : ∃ z : Int32, z = u + (1) := ⟨_, rfl⟩
                refine pw_iinc (lv' := [(4, .int v4_163), (3, .int v3_162), (5, .int v5_83), (0, .ref m), (1, .int v), (2, .int v2_25)]) v4_163 h d_X8_run_163 5 rfl e4_163.symm _ hml (by decide) rfl ?_
                refine pw_goto 38 h d_X8_run_166 (by decide) ?_
                refine PW.perm [3, 4, 5, 1, 0] rfl ?_
                refine ih (k + 1) _ _ _ _ (by omega) (by omega) (k_up e4_163 ek) ?_ hI6 (frML_t fL3 (frML_F f4)) (loF_U (frU_F f4) hlo3)
                rw [e3_162]
                have q9 := less_s (o := I6 (m + 2) k) ey (by rw [o6, w4])
                exact q9.2 c153
              · skip
                have c153 : I6 (m + 2) k < I2 (m + 2) k := by rw [← e5o]; exact Int32.not_le.mp c_153
                refine pw_iconst (x := 1) h d_X8_run_156 (by decide) ?_
                refine pw_goto 161 h d_X8_run_157 (by decide) ?_
                refine pw_iadd h d_X8_run_161 ?_
                refine pw_nmI (fun v3_162 e3_162 => ?_)
                refine pw_istore_n (lv' := [(3, .int v3_162), (5, .int v5_83), (0, .ref m), (1, .int v), (2, .int v2_25), (4, .int u)]) h d_X8_run_162 rfl _ hml (by decide) rfl ?_
                obtain ⟨v4_163, e4_163⟩ : ∃ z : Int32, z = u + (1) := ⟨_, rfl⟩
                refine pw_iinc (lv' := [(4, .int v4_163), (3, .int v3_162), (5, .int v5_83), (0, .ref m), (1, .int v), (2, .int v2_25)]) v4_163 h d_X8_run_163 5 rfl e4_163.symm _ hml (by decide) rfl ?_
                refine pw_goto 38 h d_X8_run_166 (by decide) ?_
                refine PW.perm [3, 4, 5, 1, 0] rfl ?_
                refine ih (k + 1) _ _ _ _ (by omega) (by omega) (k_up e4_163 ek) ?_ hI6 (frML_t fL3 (frML_F f4)) (loF_U (frU_F f4) hlo3)
                rw [e3_162]
                have q9 := less_s (o := I6 (m + 2) k) ey (by rw [o6, w4])
                exact q9.1 c153
            · skip
              have c107 : ¬ -50 ≤ v5_83 - I4 (m + 3) k / 10000 := c_107
              refine pw_bipush (x := (-50)) h d_X8_run_110 (by decide) ?_
              refine pw_goto 129 h d_X8_run_112 (by decide) ?_
              refine pw_iast h d_X8_run_129 (by assumption) (by assumption) ?_
              obtain ⟨I5, eI5⟩ : ∃ I5, I5 = u2 I4 (m + 2) k (-50) := ⟨_, rfl⟩
              refine pw_mem (I' := I5) eI5.symm rfl rfl ?_
              have ho : (-50) = wearO (I2 (m + 2) k) (I4 (m + 3) k) := by rw [← o4, ← e5_83]; exact wearO_f c107
              have w5 : I5 (m + 3) k = I4 (m + 3) k := by rw [eI5, u2_n1 (by omega)]
              have o5 : I5 (m + 2) k = wearO (I2 (m + 2) k) (I4 (m + 3) k) := by rw [eI5, u2_s, ho]
              refine pw_aload_n h 1 d_X8_run_130 rfl ?_
              refine pw_getR (j := (m + 3)) 8 h d_X8_run_131 fd_RX8_16 (by assumption) rfl (by assumption) ?_
              refine pw_iload h 5 d_X8_run_134 rfl ?_
              refine pw_dup2RI h d_X8_run_136 ?_
              refine pw_iald h d_X8_run_137 (by assumption) (by assumption) ?_
              refine pw_sipush (x := 10000) h d_X8_run_138 (by decide) ?_
              refine pw_irem h d_X8_run_141 (by decide) ?_
              refine pw_iast h d_X8_run_142 (by assumption) (by assumption) ?_
              obtain ⟨I6, eI6⟩ : ∃ I6, I6 = u2 I5 (m + 3) k (I5 (m + 3) k - I5 (m + 3) k / 10000 * 10000) := ⟨_, rfl⟩
              refine pw_mem (I' := I6) eI6.symm rfl rfl ?_
              have o6 : I6 (m + 2) k = wearO (I2 (m + 2) k) (I4 (m + 3) k) := by rw [eI6, u2_n1 (by omega)]; exact o5
              have hI6 : I6 = runM I2 m (hrA A (setA A c) v) (k + 1) := by rw [eI6]; exact runM_s hI3 (w := I4 (m + 3) k) (by rw [eI4, u2_s]) w4 eI5 (ho) (by rw [w5]; exact wearW_eq)
              have e5o : v5_83 = I2 (m + 2) k := e5_83.trans o4
              refine pw_iload_n h 4 d_X8_run_143 rfl ?_
              refine pw_aload_n h 1 d_X8_run_144 rfl ?_
              refine pw_getR (j := (m + 2)) 8 h d_X8_run_145 fd_RX8_13 (by assumption) rfl (by assumption) ?_
              refine pw_iload h 5 d_X8_run_148 rfl ?_
              refine pw_iald h d_X8_run_150 (by assumption) (by assumption) ?_
              refine pw_iload h 0 d_X8_run_151 rfl ?_
              refine pw_icmp_ge 160 h d_X8_run_153 (by decide) (fun c_153 => ?_) (fun c_153 => ?_)
              · skip
                have c153 : ¬ I6 (m + 2) k < I2 (m + 2) k := by rw [← e5o]; exact Int32.not_lt.mpr c_153
                refine pw_iconst (x := 0) h d_X8_run_160 (by decide) ?_
                refine pw_iadd h d_X8_run_161 ?_
                refine pw_nmI (fun v3_162 e3_162 => ?_)
                refine pw_istore_n (lv' := [(3, .int v3_162), (5, .int v5_83), (0, .ref m), (1, .int v), (2, .int v2_25), (4, .int u)]) h d_X8_run_162 rfl _ hml (by decide) rfl ?_
                obtain ⟨v4_163, e4_163⟩ : ∃ z : Int32, z = u + (1) := ⟨_, rfl⟩
                refine pw_iinc (lv' := [(4, .int v4_163), (3, .int v3_162), (5, .int v5_83), (0, .ref m), (1, .int v), (2, .int v2_25)]) v4_163 h d_X8_run_163 5 rfl e4_163.symm _ hml (by decide) rfl ?_
                refine pw_goto 38 h d_X8_run_166 (by decide) ?_
                refine PW.perm [3, 4, 5, 1, 0] rfl ?_
                refine ih (k + 1) _ _ _ _ (by omega) (by omega) (k_up e4_163 ek) ?_ hI6 (frML_t fL3 (frML_F f4)) (loF_U (frU_F f4) hlo3)
                rw [e3_162]
                have q9 := less_s (o := I6 (m + 2) k) ey (by rw [o6, w4])
                exact q9.2 c153
              · skip
                have c153 : I6 (m + 2) k < I2 (m + 2) k := by rw [← e5o]; exact Int32.not_le.mp c_153
                refine pw_iconst (x := 1) h d_X8_run_156 (by decide) ?_
                refine pw_goto 161 h d_X8_run_157 (by decide) ?_
                refine pw_iadd h d_X8_run_161 ?_
                refine pw_nmI (fun v3_162 e3_162 => ?_)
                refine pw_istore_n (lv' := [(3, .int v3_162), (5, .int v5_83), (0, .ref m), (1, .int v), (2, .int v2_25), (4, .int u)]) h d_X8_run_162 rfl _ hml (by decide) rfl ?_
                obtain ⟨v4_163, e4_163⟩ : ∃ z : Int32, z = u + (1) := ⟨_, rfl⟩
                refine pw_iinc (lv' := [(4, .int v4_163), (3, .int v3_162), (5, .int v5_83), (0, .ref m), (1, .int v), (2, .int v2_25)]) v4_163 h d_X8_run_163 5 rfl e4_163.symm _ hml (by decide) rfl ?_
                refine pw_goto 38 h d_X8_run_166 (by decide) ?_
                refine PW.perm [3, 4, 5, 1, 0] rfl ?_
                refine ih (k + 1) _ _ _ _ (by omega) (by omega) (k_up e4_163 ek) ?_ hI6 (frML_t fL3 (frML_F f4)) (loF_U (frU_F f4) hlo3)
                rw [e3_162]
                have q9 := less_s (o := I6 (m + 2) k) ey (by rw [o6, w4])
                exact q9.1 c153
      refine PW.perm [3, 4, 2, 1, 0] rfl ?_
      exact cut_38 (aN A + 1) 0 _ _ _ _ (by omega) (Nat.zero_le _) e4_36 e3_34 runM_0 fL2 hlo
    · skip
      rw [e2_25] at c_27
      refine pw_bipush (x := (-2)) h d_X8_run_30 (by decide) ?_
      refine pw_iret h hr d_X8_run_32 rfl (by decide) (by decide) ?_
      exact ⟨rfl, rfl, fL2, ifA_t c_9 (Or.inr ⟨hx2 c_27, rfl, fM2⟩)⟩
  · skip
    rw [bI_1] at c_9
    refine pw_iconst (x := (-1)) h d_X8_run_12 (by decide) ?_
    refine pw_iret h hr d_X8_run_13 rfl (by decide) (by decide) ?_
    exact ⟨rfl, rfl, frML_0, ifA_f c_9 ⟨rfl, frMI_0⟩⟩

set_option maxHeartbeats 4000000 in
set_option maxRecDepth 100000 in
theorem c_X8_whirl {sh : Sh} {I : IM} {L : LM} {R : RM} {m : Nat} {A : LA} (hM : ModF sh R m) (hm : MSm I m A) (a : okA A) : PMet M_X8_whirl [.ref m] sh I L R (obM sh I L R m (fun ret => ifA (decide (2 ≤ aN A)) (ret = some (.int (whA (I (m + 5)) (fun p => depQ (atzA A zerH (wCut A 0 13) p))))) (ret = some (.int (-2))))) := by
  refine PMet.of mf_X8_whirl (Nat.le_of_ble_eq_true rfl) ?_
  intro X h hr hml
  have hml : (xc X).maxLocals = 8 := hml
  have h : PXok X RX8 cX8_whirl 7 0 0 := h
  have hr : PXr X (some .int) "whirl" _ 0 0 := hr
  have hM0 := hM
  obtain ⟨f0, f1, f2, f3, f4, f5, f6, f7, f8, f9, f10, f11, f12, f13, f14, f15, f16, f17, f18, f19, f20, f21, f22, f23, f24, f25, f26, f27, g1, g2, g3, g4, g5, g6, g7, g8, g9, g10, g11, g12, g13, g14, g15, g16, g17, g18, g19, g20, g21, g22, g23, g24, g25, g26, g27⟩ := hM
  have hn := hm.1
  have h6 := a.1
  show PW X 0 [(0, .ref m)] [] sh I L R 0 0
  refine pw_aload_n h 0 d_X8_whirl_0 rfl ?_
  refine pw_getI 8 h d_X8_whirl_1 fd_RX8_109 (by assumption) rfl ?_
  refine pw_iconst (x := 2) h d_X8_whirl_4 (by decide) ?_
  refine pw_icmp_ge 11 h d_X8_whirl_5 (by decide) (fun c_5 => ?_) (fun c_5 => ?_)
  · skip
    have h2n : 2 ≤ aN A := k_ge hn (n := 2) rfl (by omega) (by decide) c_5
    have hB := all_ok (A := A) a (hh := zerH) (H := 0) zer_in (by grind) (by grind) 0 13 h2n
    refine pw_aload_n h 0 d_X8_whirl_11 rfl ?_
    refine pw_iconst (x := 0) h d_X8_whirl_12 (by decide) ?_
    refine pw_iconst (x := (-1)) h d_X8_whirl_13 (by decide) ?_
    refine pw_iconst (x := 0) h d_X8_whirl_14 (by decide) ?_
    refine pw_callV (As := [.int _, .int _, .int _]) h d_X8_whirl_15 mf_X8_stands mi_X8_stands ml_RX8_292 ⟨by decide, by decide, by decide⟩ (by assumption) rfl rfl (Nat.le_of_ble_eq_true rfl) trivial (c_X8_stands hM0 hm a (st := 0) (by decide) rfl (std_A a _ _ (-4)) (by decide)) ?_
    intro ret1 sh1 I1 L1 R1_ hp1
    obtain ⟨e0, e1, eR, eL, fs1, hc1, hj1⟩ := hp1
    subst e0
    have e1 := e1.symm
    have eR := eR.symm
    have eL := eL.symm
    subst e1
    subst eR
    subst eL
    refine ⟨rfl, ?_⟩
    have fM1 : frMI m I I1 := frMI_S fs1
    have hm1 := MSm_MI hm fM1
    refine pw_aload_n h 0 d_X8_whirl_18 rfl ?_
    refine pw_iconst (x := 1) h d_X8_whirl_19 (by decide) ?_
    refine pw_aload_n h 0 d_X8_whirl_20 rfl ?_
    refine pw_getI 8 h d_X8_whirl_21 fd_RX8_109 (by assumption) rfl ?_
    refine pw_ishl h d_X8_whirl_24 ?_
    refine pw_iconst (x := 1) h d_X8_whirl_25 (by decide) ?_
    refine pw_isub h d_X8_whirl_26 ?_
    refine pw_callV (As := [.int _]) h d_X8_whirl_27 mf_X8_chooses mi_X8_chooses ml_RX8_270 ⟨by decide, by decide, by decide⟩ (by assumption) rfl rfl (Nat.le_of_ble_eq_true rfl) trivial (c_X8_chooses hM0 hc1.1 (by omega) _) ?_
    intro ret2 sh2 I2 L2 R2_ hp2
    obtain ⟨e0, e1, eI, eL, eR⟩ := hp2
    subst e0
    have e1 := e1.symm
    have eR := eR.symm
    have eL := eL.symm
    subst e1
    subst eR
    subst eL
    refine ⟨rfl, ?_⟩
    have hS2 : SolM I2 m (aN A - 2) (lyN allS (aQ A) (aN A)) (lyQ allS (hgt A 0) (aN A)) (wCut A 0 13) (stf A) := by rw [eI]; exact ch_all (CnM_w hc1 wCut_13) (all_code hm1.1 (by omega)) h2n
    have fM2 : frMI m I I2 := frMI_t fM1 (by rw [eI]; exact frMI_C frCh_ch)
    have hm2 := MSm_MI hm fM2
    clear eI
    refine pw_iconst (x := 0) h d_X8_whirl_30 (by decide) ?_
    refine pw_nmI (fun v1_31 e1_31 => ?_)
    refine pw_istore_n (lv' := [(1, .int v1_31), (0, .ref m)]) h d_X8_whirl_31 rfl _ hml (by decide) rfl ?_
    have cut_32 : ∀ (N k : Nat) (x : Int32) (I3 : IM), aN A < k + N → k ≤ aN A → x = nI k → (∀ a j, a ≠ m + 12 → I3 a j = I2 a j) → (∀ i, i < k → I3 (m + 12) i = 0) → PW X 32 [(0, .ref m), (1, .int x)] [] sh I3 L R 0 0 := by
      intro N
      induction N with
      | zero => intros; omega
      | succ N ih =>
        intro k x I3 hN hk ek f3 h3
        have hn3 : I3 m 0 = nI (aN A) := by rw [f3 m 0 (by omega)]; exact hm2.1
        refine pw_iload_n h 1 d_X8_whirl_32 rfl ?_
        refine pw_aload_n h 0 d_X8_whirl_33 rfl ?_
        refine pw_getI 8 h d_X8_whirl_34 fd_RX8_109 (by assumption) rfl ?_
        refine pw_icmp_ge 53 h d_X8_whirl_37 (by decide) (fun c_37 => ?_) (fun c_37 => ?_)
        · skip
          have hge : aN A ≤ k := k_ge ek hn3 (by omega) (by omega) c_37
          have e9 : k = aN A := by omega
          subst e9
          have hS3 : SolM I3 m (aN A - 2) (lyN allS (aQ A) (aN A)) (lyQ allS zerH (aN A)) (wCut A 0 13) (stf A) := sol_th hS2 (fun a j _ q9 => f3 a j q9) (fun r hr => by rw [f3 _ _ (by omega)]; exact hS2.2.2.2.1 r hr) (fun i hi => by rw [lyQ_all (show i < aN A by omega)]; exact zer_ok (h3 i (by omega)))
          have fM3 := frMI_1213 fM2 (fun a j _ q9 => f3 a j q9)
          obtain ⟨f, D, hF, hf1, hf2, hf3, hDQ, hD, hDl⟩ := f6_ok2 hB hS3
          refine pw_aload_n h 0 d_X8_whirl_53 rfl ?_
          refine pw_callV (As := []) h d_X8_whirl_54 mf_X8_goes mi_X8_goes ml_RX8_274 ⟨by decide, by decide, by decide⟩ (by assumption) rfl rfl (Nat.le_of_ble_eq_true rfl) trivial (c_X8_goes hM0 hB hS3) ?_
          intro ret4 sh4 I4 L4 R4_ hp4
          obtain ⟨e0, e1, eR, eI, hgo⟩ := hp4
          subst e0
          have e1 := e1.symm
          have eR := eR.symm
          have eI := eI.symm
          subst e1
          subst eR
          subst eI
          refine ⟨rfl, ?_⟩
          have fL4 : frML m L L4 := frML_G (frG_go hgo.1)
          refine pw_lconst (x := 0) h d_X8_whirl_57 (by decide) ?_
          refine pw_nmL (fun v1_58 e1_58 => ?_)
          refine pw_lstore_n (lv' := [(1, .long v1_58), (0, .ref m)]) h d_X8_whirl_58 rfl _ hml (by decide) rfl ?_
          refine pw_lconst (x := 0) h d_X8_whirl_59 (by decide) ?_
          refine pw_nmL (fun v3_60 e3_60 => ?_)
          refine pw_lstore_n (lv' := [(3, .long v3_60), (1, .long v1_58), (0, .ref m)]) h d_X8_whirl_60 rfl _ hml (by decide) rfl ?_
          refine pw_iconst (x := 0) h d_X8_whirl_61 (by decide) ?_
          refine pw_nmI (fun v5_62 e5_62 => ?_)
          refine pw_istore (lv' := [(5, .int v5_62), (3, .long v3_60), (1, .long v1_58), (0, .ref m)]) h d_X8_whirl_62 _ hml (by decide) rfl ?_
          have cut_64 : ∀ (N t : Nat) (z1 z2 : Int64) (u : Int32) (L5 : LM), 13 < t + N → t ≤ 13 → u = nI t → z1 = whO (I3 (m + 5)) (fun p => depQ (atzA A zerH (wCut A 0 13) p)) t → z2 = whT (I3 (m + 5)) (fun p => depQ (atzA A zerH (wCut A 0 13) p)) t → frML m L L5 → loF L5 m (aN A - 2) (lyN allS (aQ A) (aN A)) (lyQ allS zerH (aN A)) (wCut A 0 13) (stf A) → PW X 64 [(0, .ref m), (1, .long z1), (3, .long z2), (5, .int u)] [] sh I3 L5 R 0 0 := by
            intro N
            induction N with
            | zero => intros; omega
            | succ N iht =>
              intro t z1 z2 u L5 hN ht et ha hb fL5 hlo5
              refine pw_iload h 3 d_X8_whirl_64 rfl ?_
              refine pw_bipush (x := 13) h d_X8_whirl_66 (by decide) ?_
              refine pw_icmp_ge 139 h d_X8_whirl_68 (by decide) (fun c_68 => ?_) (fun c_68 => ?_)
              · skip
                have hge := k_ge et (n := 13) rfl (by omega) (by omega) c_68
                have e9 : t = 13 := by omega
                subst e9
                refine pw_lload_n h 2 d_X8_whirl_139 rfl ?_
                refine pw_lconst (x := 0) h d_X8_whirl_140 (by decide) ?_
                refine pw_lcmp h d_X8_whirl_141 ?_
                refine pw_if_ne 149 h d_X8_whirl_142 (by decide) (fun c_142 => ?_) (fun c_142 => ?_)
                · skip
                  have hz0 : ¬ z2 = 0 := fun q9 => c_142 (by rw [lc_eq, q9])
                  refine pw_ldc2 h d_X8_whirl_149 ck_RX8_347 ?_
                  refine pw_lload_n h 1 d_X8_whirl_152 rfl ?_
                  refine pw_lmul h d_X8_whirl_153 ?_
                  refine pw_lload_n h 2 d_X8_whirl_154 rfl ?_
                  refine pw_ldiv h d_X8_whirl_155 hz0 ?_
                  refine pw_l2i h d_X8_whirl_156 ?_
                  refine pw_iret h hr d_X8_whirl_157 rfl (by decide) (by decide) ?_
                  refine ⟨rfl, rfl, fM3, fL5, ifA_t (decide_eq_true h2n) ?_⟩
                  have e5 : I3 (m + 5) = I (m + 5) := funext fun j => fM3 _ _ (by omega) (by omega) (by omega) (by omega) (by omega) (by omega)
                  rw [← e5]
                  rw [ha, hb]; exact congrArg (fun z => some (Value.int z)) (wh_e1 (by rw [← hb]; exact hz0))
                · skip
                  have hz0 : z2 = 0 := by rw [lc_eq] at c_142; exact Int64.toInt_inj.mp c_142
                  refine pw_iconst (x := 0) h d_X8_whirl_145 (by decide) ?_
                  refine pw_goto 157 h d_X8_whirl_146 (by decide) ?_
                  refine pw_iret h hr d_X8_whirl_157 rfl (by decide) (by decide) ?_
                  refine ⟨rfl, rfl, fM3, fL5, ifA_t (decide_eq_true h2n) ?_⟩
                  have e5 : I3 (m + 5) = I (m + 5) := funext fun j => fM3 _ _ (by omega) (by omega) (by omega) (by omega) (by omega) (by omega)
                  rw [← e5]
                  exact congrArg (fun z => some (Value.int z)) (wh_e0 (by rw [← hb]; exact hz0))
              · skip
                have hr13 : t < 13 := k_lt et (n := 13) rfl (by omega) (by omega) c_68
                have hxt : px_ix u 13 t := k_ix et hr13 (by decide)
                refine pw_aload_n h 0 d_X8_whirl_71 rfl ?_
                refine pw_getR (j := (m + 5)) 8 h d_X8_whirl_72 fd_RX8_22 (by assumption) rfl (by assumption) ?_
                refine pw_iload h 3 d_X8_whirl_75 rfl ?_
                refine pw_iald h d_X8_whirl_77 (by assumption) (by assumption) ?_
                refine pw_if_le 133 h d_X8_whirl_78 (by decide) (fun c_78 => ?_) (fun c_78 => ?_)
                · skip
                  have hw := wh_n ha hb (Int32.not_lt.mpr c_78)
                  obtain ⟨v5_133, e5_133⟩ : ∃ z : Int32, z = u + (1) := ⟨_, rfl⟩
                  refine pw_iinc (lv' := [(5, .int v5_133), (0, .ref m), (1, .long z1), (3, .long z2)]) v5_133 h d_X8_whirl_133 3 rfl e5_133.symm _ hml (by decide) rfl ?_
                  refine pw_goto 64 h d_X8_whirl_136 (by decide) ?_
                  refine PW.perm [1, 2, 3, 0] rfl ?_
                  exact iht (t + 1) _ _ _ _ (by omega) (by omega) (k_up e5_133 et) hw.1 hw.2 fL5 hlo5
                · skip
                  have hw0 : 0 < I3 (m + 5) t := Int32.not_le.mp c_78
                  refine pw_aload_n h 0 d_X8_whirl_81 rfl ?_
                  refine pw_iload h 3 d_X8_whirl_82 rfl ?_
                  refine pw_callV (As := [.int _]) h d_X8_whirl_84 mf_X8_height mi_X8_height ml_RX8_277 ⟨by decide, by decide, by decide⟩ (by assumption) rfl rfl (Nat.le_of_ble_eq_true rfl) trivial (c_X8_height hM0 hB hS3 hlo5 hDQ hD hDl hf3 hf1 hf2 et (by omega)) ?_
                  intro ret6 sh6 I6 L6 R6_ hp6
                  obtain ⟨e0, e1, eR, eI, f6, p6⟩ := hp6
                  subst e0
                  have e1 := e1.symm
                  have eR := eR.symm
                  have eI := eI.symm
                  subst e1
                  subst eR
                  subst eI
                  refine ⟨rfl, ?_⟩
                  have hlo6 := loF_U f6 hlo5
                  have fL6 := frML_t fL5 (frML_U f6)
                  refine pw_ldc2 h d_X8_whirl_87 ck_RX8_345 ?_
                  refine pw_aload_n h 0 d_X8_whirl_90 rfl ?_
                  refine pw_getL 8 h d_X8_whirl_91 fd_RX8_202 (by assumption) rfl ?_
                  refine pw_lmul h d_X8_whirl_94 ?_
                  refine pw_aload_n h 0 d_X8_whirl_95 rfl ?_
                  refine pw_getL 8 h d_X8_whirl_96 fd_RX8_44 (by assumption) rfl ?_
                  refine pw_ldiv h d_X8_whirl_99 (RF_ne p6.1) ?_
                  refine pw_nmL (fun v6_100 e6_100 => ?_)
                  refine pw_lstore (lv' := [(6, .long v6_100), (0, .ref m), (1, .long z1), (3, .long z2), (5, .int u)]) h d_X8_whirl_100 _ hml (by decide) rfl ?_
                  have hz : v6_100 = (fun p => depQ (atzA A zerH (wCut A 0 13) p)) t := by rw [e6_100]; exact dep_M hB hDQ hD hF hf1 hf2 hr13 p6
                  have hw := wh_s ha hb hz hw0
                  refine pw_lload_n h 2 d_X8_whirl_102 rfl ?_
                  refine pw_aload_n h 1 d_X8_whirl_103 rfl ?_
                  refine pw_getR (j := (m + 5)) 8 h d_X8_whirl_104 fd_RX8_22 (by assumption) rfl (by assumption) ?_
                  refine pw_iload h 4 d_X8_whirl_107 rfl ?_
                  refine pw_iald h d_X8_whirl_109 (by assumption) (by assumption) ?_
                  refine pw_i2l h d_X8_whirl_110 ?_
                  refine pw_lload h 0 d_X8_whirl_111 rfl ?_
                  refine pw_lmul h d_X8_whirl_113 ?_
                  refine pw_ladd h d_X8_whirl_114 ?_
                  refine pw_nmL (fun v1_115 e1_115 => ?_)
                  refine pw_lstore_n (lv' := [(1, .long v1_115), (6, .long v6_100), (0, .ref m), (3, .long z2), (5, .int u)]) h d_X8_whirl_115 rfl _ hml (by decide) rfl ?_
                  refine pw_lload_n h 3 d_X8_whirl_116 rfl ?_
                  refine pw_aload_n h 2 d_X8_whirl_117 rfl ?_
                  refine pw_getR (j := (m + 5)) 8 h d_X8_whirl_118 fd_RX8_22 (by assumption) rfl (by assumption) ?_
                  refine pw_iload h 4 d_X8_whirl_121 rfl ?_
                  refine pw_iald h d_X8_whirl_123 (by assumption) (by assumption) ?_
                  refine pw_i2l h d_X8_whirl_124 ?_
                  refine pw_lload h 1 d_X8_whirl_125 rfl ?_
                  refine pw_lmul h d_X8_whirl_127 ?_
                  refine pw_lload h 1 d_X8_whirl_128 rfl ?_
                  refine pw_lmul h d_X8_whirl_130 ?_
                  refine pw_ladd h d_X8_whirl_131 ?_
                  refine pw_nmL (fun v3_132 e3_132 => ?_)
                  refine pw_lstore_n (lv' := [(3, .long v3_132), (1, .long v1_115), (6, .long v6_100), (0, .ref m), (5, .int u)]) h d_X8_whirl_132 rfl _ hml (by decide) rfl ?_
                  obtain ⟨v5_133, e5_133⟩ : ∃ z : Int32, z = u + (1) := ⟨_, rfl⟩
                  refine pw_iinc (lv' := [(5, .int v5_133), (3, .long v3_132), (1, .long v1_115), (6, .long v6_100), (0, .ref m)]) v5_133 h d_X8_whirl_133 4 rfl e5_133.symm _ hml (by decide) rfl ?_
                  refine pw_goto 64 h d_X8_whirl_136 (by decide) ?_
                  refine PW.perm [4, 2, 1, 0] rfl ?_
                  exact iht (t + 1) _ _ _ _ (by omega) (by omega) (k_up e5_133 et) (e1_115.trans hw.1) (e3_132.trans hw.2) fL6 hlo6
          refine PW.perm [3, 2, 1, 0] rfl ?_
          exact cut_64 14 0 _ _ _ _ (by omega) (Nat.zero_le _) e5_62 e1_58 e3_60 fL4 (fun j hj => hgo.2.2.2 j hj)
        · skip
          have hkl : k < aN A := k_lt ek hn3 (by omega) (by omega) c_37
          have hxk : px_ix x 7 k := k_ix ek (by omega) (by decide)
          refine pw_aload_n h 0 d_X8_whirl_40 rfl ?_
          refine pw_getR (j := (m + 12)) 8 h d_X8_whirl_41 fd_RX8_51 (by assumption) rfl (by assumption) ?_
          refine pw_iload_n h 1 d_X8_whirl_44 rfl ?_
          refine pw_iconst (x := 0) h d_X8_whirl_45 (by decide) ?_
          refine pw_iast h d_X8_whirl_46 (by assumption) (by assumption) ?_
          obtain ⟨v1_47, e1_47⟩ : ∃ z : Int32, z = x + (1) := ⟨_, rfl⟩
          refine pw_iinc (lv' := [(1, .int v1_47), (0, .ref m)]) v1_47 h d_X8_whirl_47 1 rfl e1_47.symm _ hml (by decide) rfl ?_
          refine pw_goto 32 h d_X8_whirl_50 (by decide) ?_
          refine PW.perm [1, 0] rfl ?_
          refine ih (k + 1) _ _ (by omega) (by omega) (k_up e1_47 ek) (fun b j q9 => by rw [u2_n1 q9]; exact f3 b j q9) (fun i hi => ?_)
          by_cases e9 : i = k
          · rw [e9, u2_s]
          · rw [u2_n2 e9]; exact h3 i (by omega)
    refine PW.perm [1, 0] rfl ?_
    exact cut_32 (aN A + 1) 0 _ I2 (by omega) (Nat.zero_le _) e1_31 (fun _ _ _ => rfl) (fun r hr => absurd hr (Nat.not_lt_zero _))
  · skip
    have h2n : aN A < 2 := k_lt hn (n := 2) rfl (by omega) (by decide) c_5
    refine pw_bipush (x := (-2)) h d_X8_whirl_8 (by decide) ?_
    refine pw_iret h hr d_X8_whirl_10 rfl (by decide) (by decide) ?_
    exact ⟨rfl, rfl, frMI_0, frML_0, ifA_f (decide_eq_false (by omega)) rfl⟩
