set_option maxHeartbeats 4000000 in
set_option maxRecDepth 100000 in
theorem c_X8_tilts {sh : Sh} {I : IM} {L : LM} {R : RM} {m n D f : Nat} {pl : Nat → Nat} {hg w : Nat → Rat} {F H : Rat} (hM : ModF sh R m) (hB : okB pl hg w F H n) (hS : SolM I m n pl hg w F) (hlo : loF L m n pl hg w F) (hDQ : DQ (spR pl n) n = (D : Rat)) (hD : 0 < D) (hDl : D ≤ 204472320) (hf : (I m 7).toInt = (f : Int)) (h1 : 1 ≤ f) (h2 : f ≤ 20) : PMet M_X8_tilts [.ref m] sh I L R (tltP sh I L R m (D * (6 * f) * spP pl n 0) (tltQ pl hg w F n f)) := by
  refine PMet.of mf_X8_tilts (Nat.le_of_ble_eq_true rfl) ?_
  intro X h hr hml
  have hml : (xc X).maxLocals = 5 := hml
  have h : PXok X RX8 cX8_tilts 5 0 0 := h
  have hr : PXr X none "tilts" _ 0 0 := hr
  have hM0 := hM
  obtain ⟨f0, f1, f2, f3, f4, f5, f6, f7, f8, f9, f10, f11, f12, f13, f14, f15, f16, f17, f18, f19, f20, f21, f22, f23, f24, f25, f26, f27, g1, g2, g3, g4, g5, g6, g7, g8, g9, g10, g11, g12, g13, g14, g15, g16, g17, g18, g19, g20, g21, g22, g23, g24, g25, g26, g27⟩ := hM
  have hP := hB.1
  have b0 := isP_le hP (show 0 < n + 2 by omega)
  have b1 := isP_le hP (show 1 < n + 2 by omega)
  have x0 := hS.2.1 0 (by omega)
  have x1 := hS.2.1 1 (by omega)
  obtain ⟨D61, D62, D63⟩ := D6_ok hD hDl h1 h2
  have hdh := dh_in hB hS
  have hss := sp_le12 hP 0
  show PW X 0 [(0, .ref m)] [] sh I L R 0 0
  refine pw_aload_n h 0 d_X8_tilts_0 rfl ?_
  refine pw_aload_n h 0 d_X8_tilts_1 rfl ?_
  refine pw_getR (j := (m + 11)) 8 h d_X8_tilts_2 fd_RX8_48 (by assumption) rfl (by assumption) ?_
  refine pw_iconst (x := 1) h d_X8_tilts_5 (by decide) ?_
  refine pw_iald (j := 1) h d_X8_tilts_6 (by assumption) (px_ix_nI (j := 1) (by decide) (by decide)) ?_
  refine pw_iconst (x := 0) h d_X8_tilts_7 (by decide) ?_
  refine pw_callV (As := [.int _, .int _]) h d_X8_tilts_8 mf_X8_sums mi_X8_sums ml_RX8_257 ⟨by decide, by decide, by decide⟩ (by assumption) rfl rfl (Nat.le_of_ble_eq_true rfl) trivial (c_X8_sums hM0 hB hS hlo hDQ hD hDl cc_0 x1 b1) ?_
  intro ret1 sh1 I1 L1 R1_ hp1
  obtain ⟨e0, e1, eR, eI, fU1, r1, d1⟩ := hp1
  subst e0
  have e1 := e1.symm
  have eR := eR.symm
  have eI := eI.symm
  subst e1
  subst eR
  subst eI
  refine ⟨rfl, ?_⟩
  have fV1 : frU m L L1 := fU1
  have hlo1 := loF_U fV1 hlo
  refine pw_aload_n h 0 d_X8_tilts_11 rfl ?_
  refine pw_getL 8 h d_X8_tilts_12 fd_RX8_251 (by assumption) rfl ?_
  refine pw_nmL (fun v1_15 e1_15 => ?_)
  refine pw_lstore_n (lv' := [(1, .long v1_15), (0, .ref m)]) h d_X8_tilts_15 rfl _ hml (by decide) rfl ?_
  refine pw_aload_n h 1 d_X8_tilts_16 rfl ?_
  refine pw_getL 8 h d_X8_tilts_17 fd_RX8_254 (by assumption) rfl ?_
  refine pw_nmL (fun v3_20 e3_20 => ?_)
  refine pw_lstore_n (lv' := [(3, .long v3_20), (1, .long v1_15), (0, .ref m)]) h d_X8_tilts_20 rfl _ hml (by decide) rfl ?_
  refine pw_aload_n h 2 d_X8_tilts_21 rfl ?_
  refine pw_aload_n h 2 d_X8_tilts_22 rfl ?_
  refine pw_getR (j := (m + 11)) 8 h d_X8_tilts_23 fd_RX8_48 (by assumption) rfl (by assumption) ?_
  refine pw_iconst (x := 0) h d_X8_tilts_26 (by decide) ?_
  refine pw_iald (j := 0) h d_X8_tilts_27 (by assumption) (px_ix_nI (j := 0) (by decide) (by decide)) ?_
  refine pw_iconst (x := 0) h d_X8_tilts_28 (by decide) ?_
  refine pw_callV (As := [.int _, .int _]) h d_X8_tilts_29 mf_X8_sums mi_X8_sums ml_RX8_257 ⟨by decide, by decide, by decide⟩ (by assumption) rfl rfl (Nat.le_of_ble_eq_true rfl) trivial (c_X8_sums hM0 hB hS hlo1 hDQ hD hDl cc_0 x0 b0) ?_
  intro ret2 sh2 I2 L2 R2_ hp2
  obtain ⟨e0, e1, eR, eI, fU2, r2, d2⟩ := hp2
  subst e0
  have e1 := e1.symm
  have eR := eR.symm
  have eI := eI.symm
  subst e1
  subst eR
  subst eI
  refine ⟨rfl, ?_⟩
  have fV2 : frU m L L2 := frU_t fV1 fU2
  have hlo2 := loF_U fV2 hlo
  refine pw_aload_n h 2 d_X8_tilts_32 rfl ?_
  refine pw_aload_n h 2 d_X8_tilts_33 rfl ?_
  refine pw_getL 8 h d_X8_tilts_34 fd_RX8_251 (by assumption) rfl ?_
  refine pw_aload_n h 2 d_X8_tilts_37 rfl ?_
  refine pw_getL 8 h d_X8_tilts_38 fd_RX8_254 (by assumption) rfl ?_
  refine pw_ldc2 h d_X8_tilts_41 ck_RX8_211 ?_
  refine pw_lmul h d_X8_tilts_44 ?_
  refine pw_aload_n h 2 d_X8_tilts_45 rfl ?_
  refine pw_getI 8 h d_X8_tilts_46 fd_RX8_28 (by assumption) rfl ?_
  refine pw_i2l h d_X8_tilts_49 ?_
  refine pw_lmul h d_X8_tilts_50 ?_
  have hq1 := mk_6 (x := I m 7) r2 d2 hD hDl hf h1 h2 (inQ_le (S_15 hB b0) (by grind))
  have hk := mk_PFg (L := L2) (m := m) (in_lo (num_in r2 d2 hD (D_inQ hDl) (S_15 hB b0) (by grind))) hq1.2.1 hq1.1 D61 hq1.2.2.1
  refine pw_callV (As := [.long _, .long _]) h d_X8_tilts_51 mf_X8_makes mi_X8_makes ml_RX8_205 ⟨by decide, by decide, by decide⟩ (by assumption) rfl rfl (Nat.le_of_ble_eq_true rfl) trivial (c_X8_makes hM0 _ _ hk.1) ?_
  intro ret3 sh3 I3 L3 R3_ hp3
  obtain ⟨e0, e1, eI, eL, eR⟩ := hp3
  subst e0
  have e1 := e1.symm
  have eR := eR.symm
  have eI := eI.symm
  subst e1
  subst eR
  subst eI
  refine ⟨rfl, ?_⟩
  have fV3 : frU m L L3 := by rw [eL]; exact frU_t fV2 (frU_F mkL_fr)
  have p3 : PF L3 m (D * (6 * f)) ((smV pl hg w F n cb (pl 0)) / (6 * (f : Rat))) := by rw [eL]; exact hk.2
  clear eL
  refine pw_aload_n h 2 d_X8_tilts_54 rfl ?_
  refine pw_lload_n h 1 d_X8_tilts_55 rfl ?_
  refine pw_lneg h d_X8_tilts_56 ?_
  refine pw_lload_n h 0 d_X8_tilts_57 rfl ?_
  refine pw_ldc2 h d_X8_tilts_58 ck_RX8_211 ?_
  refine pw_lmul h d_X8_tilts_61 ?_
  refine pw_aload_n h 2 d_X8_tilts_62 rfl ?_
  refine pw_getI 8 h d_X8_tilts_63 fd_RX8_28 (by assumption) rfl ?_
  refine pw_i2l h d_X8_tilts_66 ?_
  refine pw_lmul h d_X8_tilts_67 ?_
  have r1b : RF v1_15 v3_20 (smV pl hg w F n cb (pl 1)) := by rw [e1_15, e3_20]; exact r1
  have hq2 := mk_6 (x := I m 7) r1b d1 hD hDl hf h1 h2 (inQ_le (S_15 hB b1) (by grind))
  have ga := ad_PFg (B := 50000000) p3 hq2.2.1 (neg_64 (num_in r1b d1 hD (D_inQ hDl) (S_15 hB b1) (by grind)) hq2.1) D61 (by omega) D63 hq2.2.2.1 (inQ_le (inQ_add hq1.2.2.2 (inQ_neg hq2.2.2.2)) (by grind)) (by grind)
  refine pw_callV (As := [.long _, .long _]) h d_X8_tilts_68 mf_X8_adds mi_X8_adds ml_RX8_235 ⟨by decide, by decide, by decide⟩ (by assumption) rfl rfl (Nat.le_of_ble_eq_true rfl) trivial (c_X8_adds hM0 _ _ ga.1 ga.2.1) ?_
  intro ret4 sh4 I4 L4 R4_ hp4
  obtain ⟨e0, e1, eI, eL, eR⟩ := hp4
  subst e0
  have e1 := e1.symm
  have eR := eR.symm
  have eI := eI.symm
  subst e1
  subst eR
  subst eI
  refine ⟨rfl, ?_⟩
  have fV4 : frU m L L4 := by rw [eL]; exact frU_t fV3 (frU_F adL_fr)
  have p4 : PF L4 m (D * (6 * f)) ((smV pl hg w F n cb (pl 0)) / (6 * (f : Rat)) + -((smV pl hg w F n cb (pl 1)) / (6 * (f : Rat)))) := by rw [eL]; exact ga.2.2
  clear eL
  refine pw_aload_n h 2 d_X8_tilts_71 rfl ?_
  refine pw_aload_n h 2 d_X8_tilts_72 rfl ?_
  refine pw_getR (j := (m + 12)) 8 h d_X8_tilts_73 fd_RX8_51 (by assumption) rfl (by assumption) ?_
  refine pw_iconst (x := 1) h d_X8_tilts_76 (by decide) ?_
  refine pw_iald (j := 1) h d_X8_tilts_77 (by assumption) (px_ix_nI (j := 1) (by decide) (by decide)) ?_
  refine pw_aload_n h 2 d_X8_tilts_78 rfl ?_
  refine pw_getR (j := (m + 12)) 8 h d_X8_tilts_79 fd_RX8_51 (by assumption) rfl (by assumption) ?_
  refine pw_iconst (x := 0) h d_X8_tilts_82 (by decide) ?_
  refine pw_iald (j := 0) h d_X8_tilts_83 (by assumption) (px_ix_nI (j := 0) (by decide) (by decide)) ?_
  refine pw_isub h d_X8_tilts_84 ?_
  refine pw_i2l h d_X8_tilts_85 ?_
  refine pw_lconst (x := 1) h d_X8_tilts_86 (by decide) ?_
  have hb5 : inQ ((smV pl hg w F n cb (pl 0)) / (6 * (f : Rat)) + -((smV pl hg w F n cb (pl 1)) / (6 * (f : Rat))) + (hg 1 - hg 0)) 50000000 := inQ_le (inQ_add (inQ_add hq1.2.2.2 (inQ_neg hq2.2.2.2)) hdh.2) (by grind)
  have gb := ad_PFg (B := 50000000) p4 (by decide) hdh.1 D61 (by omega) D63 (Nat.one_dvd _) hb5 (by grind)
  refine pw_callV (As := [.long _, .long _]) h d_X8_tilts_87 mf_X8_adds mi_X8_adds ml_RX8_235 ⟨by decide, by decide, by decide⟩ (by assumption) rfl rfl (Nat.le_of_ble_eq_true rfl) trivial (c_X8_adds hM0 _ _ gb.1 gb.2.1) ?_
  intro ret5 sh5 I5 L5 R5_ hp5
  obtain ⟨e0, e1, eI, eL, eR⟩ := hp5
  subst e0
  have e1 := e1.symm
  have eR := eR.symm
  have eI := eI.symm
  subst e1
  subst eR
  subst eI
  refine ⟨rfl, ?_⟩
  have fV5 : frU m L L5 := by rw [eL]; exact frU_t fV4 (frU_F adL_fr)
  have p5 : PF L5 m (D * (6 * f)) ((smV pl hg w F n cb (pl 0)) / (6 * (f : Rat)) + -((smV pl hg w F n cb (pl 1)) / (6 * (f : Rat))) + (hg 1 - hg 0)) := by rw [eL]; exact gb.2.2
  clear eL
  refine pw_aload_n h 2 d_X8_tilts_90 rfl ?_
  refine pw_aload_n h 2 d_X8_tilts_91 rfl ?_
  refine pw_getL 8 h d_X8_tilts_92 fd_RX8_202 (by assumption) rfl ?_
  refine pw_aload_n h 2 d_X8_tilts_95 rfl ?_
  refine pw_getL 8 h d_X8_tilts_96 fd_RX8_44 (by assumption) rfl ?_
  refine pw_aload_n h 2 d_X8_tilts_99 rfl ?_
  refine pw_getR (j := (m + 11)) 8 h d_X8_tilts_100 fd_RX8_48 (by assumption) rfl (by assumption) ?_
  refine pw_iconst (x := 1) h d_X8_tilts_103 (by decide) ?_
  refine pw_iald (j := 1) h d_X8_tilts_104 (by assumption) (px_ix_nI (j := 1) (by decide) (by decide)) ?_
  refine pw_aload_n h 2 d_X8_tilts_105 rfl ?_
  refine pw_getR (j := (m + 11)) 8 h d_X8_tilts_106 fd_RX8_48 (by assumption) rfl (by assumption) ?_
  refine pw_iconst (x := 0) h d_X8_tilts_109 (by decide) ?_
  refine pw_iald (j := 0) h d_X8_tilts_110 (by assumption) (px_ix_nI (j := 0) (by decide) (by decide)) ?_
  refine pw_isub h d_X8_tilts_111 ?_
  refine pw_i2l h d_X8_tilts_112 ?_
  refine pw_lmul h d_X8_tilts_113 ?_
  have hq4 := mk_s p5.1 p5.2 D61 D62 (sm_in hP hS (Nat.zero_lt_succ n)).1 hss.1 hss.2
  have gc := mk_PFg (L := L5) (m := m) (in_lo (num_in p5.1 p5.2 D61 D63 hb5 (by grind))) hq4.2.1 hq4.1 (Nat.mul_pos D61 hss.1) hq4.2.2
  refine pw_callV (As := [.long _, .long _]) h d_X8_tilts_114 mf_X8_makes mi_X8_makes ml_RX8_205 ⟨by decide, by decide, by decide⟩ (by assumption) rfl rfl (Nat.le_of_ble_eq_true rfl) trivial (c_X8_makes hM0 _ _ gc.1) ?_
  intro ret6 sh6 I6 L6 R6_ hp6
  obtain ⟨e0, e1, eI, eL, eR⟩ := hp6
  subst e0
  have e1 := e1.symm
  have eR := eR.symm
  have eI := eI.symm
  subst e1
  subst eR
  subst eI
  refine ⟨rfl, ?_⟩
  have fV6 : frU m L L6 := by rw [eL]; exact frU_t fV5 (frU_F mkL_fr)
  have p6 : PF L6 m (D * (6 * f) * spP pl n 0) (tltQ pl hg w F n f) := by rw [eL]; exact gc.2
  clear eL
  refine pw_vret h hr d_X8_tilts_117 (by decide) (by decide) ?_
  exact ⟨rfl, rfl, rfl, rfl, fV6, p6⟩
