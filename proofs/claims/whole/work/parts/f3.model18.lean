set_option maxHeartbeats 4000000 in
set_option maxRecDepth 100000 in
theorem c_X8_height {sh : Sh} {I : IM} {L : LM} {R : RM} {m n D f : Nat} {pl : Nat → Nat} {hg w : Nat → Rat} {F H : Rat} (hM : ModF sh R m) (hB : okB pl hg w F H n) (hS : SolM I m n pl hg w F) (hlo : loF L m n pl hg w F) (hDQ : DQ (spR pl n) n = (D : Rat)) (hD : 0 < D) (hDl : D ≤ 204472320) (hf : (I m 7).toInt = (f : Int)) (h1 : 1 ≤ f) (h2 : f ≤ 20) {x : Nat} {u : Int32} (eu : u = nI x) (hx : x ≤ 12) : PMet M_X8_height [.ref m, .int u] sh I L R (tltP sh I L R m (D * (6 * f) * spP pl n 0) (heiQ pl hg w F n f x)) := by
  refine PMet.of mf_X8_height (Nat.le_of_ble_eq_true rfl) ?_
  intro X h hr hml
  have hml : (xc X).maxLocals = 10 := hml
  have h : PXok X RX8 cX8_height 6 0 0 := h
  have hr : PXr X none "height" _ 0 0 := hr
  have hM0 := hM
  obtain ⟨f0, f1, f2, f3, f4, f5, f6, f7, f8, f9, f10, f11, f12, f13, f14, f15, f16, f17, f18, f19, f20, f21, f22, f23, f24, f25, f26, f27, g1, g2, g3, g4, g5, g6, g7, g8, g9, g10, g11, g12, g13, g14, g15, g16, g17, g18, g19, g20, g21, g22, g23, g24, g25, g26, g27⟩ := hM
  have hP := hB.1
  have b0 := isP_le hP (show 0 < n + 2 by omega)
  have x0 := hS.2.1 0 (by omega)
  obtain ⟨D31, D32, D33⟩ := D4_ok hP hDQ hD h1 h2
  have hdx := x_in hx b0
  have hrd : ((u - I (m + 11) 0).toInt64.toInt : Rat) = (x : Rat) - pl 0 := by rw [eu, x0]; exact (RI_dif (by omega) (by omega)).2
  have hh0 := h0_in hB hS
  have hti := tlt_in hB hS h1
  show PW X 0 [(0, .ref m), (1, .int u)] [] sh I L R 0 0
  refine pw_aload_n h 0 d_X8_height_0 rfl ?_
  refine pw_callV (As := []) h d_X8_height_1 mf_X8_tilts mi_X8_tilts ml_RX8_261 ⟨by decide, by decide, by decide⟩ (by assumption) rfl rfl (Nat.le_of_ble_eq_true rfl) trivial (c_X8_tilts hM0 hB hS hlo hDQ hD hDl hf h1 h2) ?_
  intro ret1 sh1 I1 L1 R1_ hp1
  obtain ⟨e0, e1, eR, eI, fU1, p1⟩ := hp1
  subst e0
  have e1 := e1.symm
  have eR := eR.symm
  have eI := eI.symm
  subst e1
  subst eR
  subst eI
  refine ⟨rfl, ?_⟩
  have hlo1 := loF_U fU1 hlo
  refine pw_aload_n h 0 d_X8_height_4 rfl ?_
  refine pw_aload_n h 0 d_X8_height_5 rfl ?_
  refine pw_getL 8 h d_X8_height_6 fd_RX8_202 (by assumption) rfl ?_
  refine pw_iload_n h 1 d_X8_height_9 rfl ?_
  refine pw_aload_n h 0 d_X8_height_10 rfl ?_
  refine pw_getR (j := (m + 11)) 8 h d_X8_height_11 fd_RX8_48 (by assumption) rfl (by assumption) ?_
  refine pw_iconst (x := 0) h d_X8_height_14 (by decide) ?_
  refine pw_iald (j := 0) h d_X8_height_15 (by assumption) (px_ix_nI (j := 0) (by decide) (by decide)) ?_
  refine pw_isub h d_X8_height_16 ?_
  refine pw_i2l h d_X8_height_17 ?_
  refine pw_lmul h d_X8_height_18 ?_
  refine pw_aload_n h 0 d_X8_height_19 rfl ?_
  refine pw_getL 8 h d_X8_height_20 fd_RX8_44 (by assumption) rfl ?_
  have hmx := mk_x p1.1 p1.2 D31 D33 hti hrd hdx
  have ht1 := RF_t p1.1 p1.2
  have hk := mk_PFg (L := L1) (m := m) (in_lo hmx.2) ht1.2.1 hmx.1 D31 ht1.2.2
  refine pw_callV (As := [.long _, .long _]) h d_X8_height_23 mf_X8_makes mi_X8_makes ml_RX8_205 ⟨by decide, by decide, by decide⟩ (by assumption) rfl rfl (Nat.le_of_ble_eq_true rfl) trivial (c_X8_makes hM0 _ _ hk.1) ?_
  intro ret2 sh2 I2 L2 R2_ hp2
  obtain ⟨e0, e1, eI, eL, eR⟩ := hp2
  subst e0
  have e1 := e1.symm
  have eR := eR.symm
  have eI := eI.symm
  subst e1
  subst eR
  subst eI
  refine ⟨rfl, ?_⟩
  have fV2 : frU m L L2 := by rw [eL]; exact frU_t fU1 (frU_F mkL_fr)
  have p2 : PF L2 m (D * (6 * f) * spP pl n 0) (tltQ pl hg w F n f * ((x : Rat) - pl 0)) := by rw [eL]; exact hk.2
  have hlo2 := loF_U fV2 hlo
  clear eL
  refine pw_aload_n h 0 d_X8_height_26 rfl ?_
  refine pw_getL 8 h d_X8_height_27 fd_RX8_202 (by assumption) rfl ?_
  refine pw_nmL (fun v2_30 e2_30 => ?_)
  refine pw_lstore_n (lv' := [(2, .long v2_30), (0, .ref m), (1, .int u)]) h d_X8_height_30 rfl _ hml (by decide) rfl ?_
  refine pw_aload_n h 1 d_X8_height_31 rfl ?_
  refine pw_getL 8 h d_X8_height_32 fd_RX8_44 (by assumption) rfl ?_
  refine pw_nmL (fun v4_35 e4_35 => ?_)
  refine pw_lstore (lv' := [(4, .long v4_35), (2, .long v2_30), (0, .ref m), (1, .int u)]) h d_X8_height_35 _ hml (by decide) rfl ?_
  refine pw_aload_n h 2 d_X8_height_37 rfl ?_
  refine pw_aload_n h 2 d_X8_height_38 rfl ?_
  refine pw_getR (j := (m + 11)) 8 h d_X8_height_39 fd_RX8_48 (by assumption) rfl (by assumption) ?_
  refine pw_iconst (x := 0) h d_X8_height_42 (by decide) ?_
  refine pw_iald (j := 0) h d_X8_height_43 (by assumption) (px_ix_nI (j := 0) (by decide) (by decide)) ?_
  refine pw_iconst (x := 0) h d_X8_height_44 (by decide) ?_
  refine pw_callV (As := [.int _, .int _]) h d_X8_height_45 mf_X8_sums mi_X8_sums ml_RX8_257 ⟨by decide, by decide, by decide⟩ (by assumption) rfl rfl (Nat.le_of_ble_eq_true rfl) trivial (c_X8_sums hM0 hB hS hlo2 hDQ hD hDl cc_0 x0 b0) ?_
  intro ret3 sh3 I3 L3 R3_ hp3
  obtain ⟨e0, e1, eR, eI, fU3, r3, d3⟩ := hp3
  subst e0
  have e1 := e1.symm
  have eR := eR.symm
  have eI := eI.symm
  subst e1
  subst eR
  subst eI
  refine ⟨rfl, ?_⟩
  have fV3 : frU m L L3 := frU_t fV2 fU3
  have hlo3 := loF_U fV3 hlo
  refine pw_aload_n h 2 d_X8_height_48 rfl ?_
  refine pw_getL 8 h d_X8_height_49 fd_RX8_251 (by assumption) rfl ?_
  refine pw_nmL (fun v6_52 e6_52 => ?_)
  refine pw_lstore (lv' := [(6, .long v6_52), (4, .long v4_35), (2, .long v2_30), (0, .ref m), (1, .int u)]) h d_X8_height_52 _ hml (by decide) rfl ?_
  refine pw_aload_n h 3 d_X8_height_54 rfl ?_
  refine pw_getL 8 h d_X8_height_55 fd_RX8_254 (by assumption) rfl ?_
  refine pw_nmL (fun v8_58 e8_58 => ?_)
  refine pw_lstore (lv' := [(8, .long v8_58), (6, .long v6_52), (4, .long v4_35), (2, .long v2_30), (0, .ref m), (1, .int u)]) h d_X8_height_58 _ hml (by decide) rfl ?_
  refine pw_aload_n h 4 d_X8_height_60 rfl ?_
  refine pw_iload_n h 5 d_X8_height_61 rfl ?_
  refine pw_iconst (x := 0) h d_X8_height_62 (by decide) ?_
  refine pw_callV (As := [.int _, .int _]) h d_X8_height_63 mf_X8_sums mi_X8_sums ml_RX8_257 ⟨by decide, by decide, by decide⟩ (by assumption) rfl rfl (Nat.le_of_ble_eq_true rfl) trivial (c_X8_sums hM0 hB hS hlo3 hDQ hD hDl cc_0 eu hx) ?_
  intro ret4 sh4 I4 L4 R4_ hp4
  obtain ⟨e0, e1, eR, eI, fU4, r4, d4⟩ := hp4
  subst e0
  have e1 := e1.symm
  have eR := eR.symm
  have eI := eI.symm
  subst e1
  subst eR
  subst eI
  refine ⟨rfl, ?_⟩
  have fV4 : frU m L L4 := frU_t fV3 fU4
  refine pw_aload_n h 4 d_X8_height_66 rfl ?_
  refine pw_aload_n h 4 d_X8_height_67 rfl ?_
  refine pw_getL 8 h d_X8_height_68 fd_RX8_251 (by assumption) rfl ?_
  refine pw_aload_n h 4 d_X8_height_71 rfl ?_
  refine pw_getL 8 h d_X8_height_72 fd_RX8_254 (by assumption) rfl ?_
  refine pw_ldc2 h d_X8_height_75 ck_RX8_211 ?_
  refine pw_lmul h d_X8_height_78 ?_
  refine pw_aload_n h 4 d_X8_height_79 rfl ?_
  refine pw_getI 8 h d_X8_height_80 fd_RX8_28 (by assumption) rfl ?_
  refine pw_i2l h d_X8_height_83 ?_
  refine pw_lmul h d_X8_height_84 ?_
  have hq1 := mk_6 (x := I m 7) r4 d4 hD hDl hf h1 h2 (inQ_le (S_15 hB hx) (by grind))
  have hkk := mk_PFg (L := L4) (m := m) (in_lo (num_in r4 d4 hD (D_inQ hDl) (S_15 hB hx) (by grind))) hq1.2.1 hq1.1 D31 (Nat.dvd_trans hq1.2.2.1 (Nat.dvd_mul_right _ _))
  refine pw_callV (As := [.long _, .long _]) h d_X8_height_85 mf_X8_makes mi_X8_makes ml_RX8_205 ⟨by decide, by decide, by decide⟩ (by assumption) rfl rfl (Nat.le_of_ble_eq_true rfl) trivial (c_X8_makes hM0 _ _ hkk.1) ?_
  intro ret5 sh5 I5 L5 R5_ hp5
  obtain ⟨e0, e1, eI, eL, eR⟩ := hp5
  subst e0
  have e1 := e1.symm
  have eR := eR.symm
  have eI := eI.symm
  subst e1
  subst eR
  subst eI
  refine ⟨rfl, ?_⟩
  have fV5 : frU m L L5 := by rw [eL]; exact frU_t fV4 (frU_F mkL_fr)
  have p5 : PF L5 m (D * (6 * f) * spP pl n 0) ((smV pl hg w F n cb x) / (6 * (f : Rat))) := by rw [eL]; exact hkk.2
  clear eL
  refine pw_aload_n h 4 d_X8_height_88 rfl ?_
  refine pw_lload h 1 d_X8_height_89 rfl ?_
  refine pw_lneg h d_X8_height_91 ?_
  refine pw_lload h 0 d_X8_height_92 rfl ?_
  refine pw_ldc2 h d_X8_height_94 ck_RX8_211 ?_
  refine pw_lmul h d_X8_height_97 ?_
  refine pw_aload_n h 4 d_X8_height_98 rfl ?_
  refine pw_getI 8 h d_X8_height_99 fd_RX8_28 (by assumption) rfl ?_
  refine pw_i2l h d_X8_height_102 ?_
  refine pw_lmul h d_X8_height_103 ?_
  have r3b : RF v6_52 v8_58 (smV pl hg w F n cb (pl 0)) := by rw [e6_52, e8_58]; exact r3
  have hq2 := mk_6 (x := I m 7) r3b d3 hD hDl hf h1 h2 (inQ_le (S_15 hB b0) (by grind))
  have i1 := dv6 (S_15 hB hx) h1 (by grind)
  have i2 := dv6 (S_15 hB b0) h1 (by grind)
  have ga := ad_PFg (B := 80000000) p5 hq2.2.1 (neg_64 (num_in r3b d3 hD (D_inQ hDl) (S_15 hB b0) (by grind)) hq2.1) D31 D32 D33 (Nat.dvd_trans hq2.2.2.1 (Nat.dvd_mul_right _ _)) (inQ_le (inQ_add i1 (inQ_neg i2)) (by grind)) (by grind)
  refine pw_callV (As := [.long _, .long _]) h d_X8_height_104 mf_X8_adds mi_X8_adds ml_RX8_235 ⟨by decide, by decide, by decide⟩ (by assumption) rfl rfl (Nat.le_of_ble_eq_true rfl) trivial (c_X8_adds hM0 _ _ ga.1 ga.2.1) ?_
  intro ret6 sh6 I6 L6 R6_ hp6
  obtain ⟨e0, e1, eI, eL, eR⟩ := hp6
  subst e0
  have e1 := e1.symm
  have eR := eR.symm
  have eI := eI.symm
  subst e1
  subst eR
  subst eI
  refine ⟨rfl, ?_⟩
  have fV6 : frU m L L6 := by rw [eL]; exact frU_t fV5 (frU_F adL_fr)
  have p6 : PF L6 m (D * (6 * f) * spP pl n 0) (((smV pl hg w F n cb x) / (6 * (f : Rat))) + -((smV pl hg w F n cb (pl 0)) / (6 * (f : Rat)))) := by rw [eL]; exact ga.2.2
  clear eL
  refine pw_aload_n h 4 d_X8_height_107 rfl ?_
  refine pw_lload_n h 3 d_X8_height_108 rfl ?_
  refine pw_lload h 2 d_X8_height_109 rfl ?_
  have p2b : PF L2 m (D * (6 * f) * spP pl n 0) (tltQ pl hg w F n f * ((x : Rat) - pl 0)) := p2
  have r2b : RF v2_30 v4_35 (tltQ pl hg w F n f * ((x : Rat) - pl 0)) := by rw [e2_30, e4_35]; exact p2.1
  have ht2 := RF_t r2b p2.2
  have gb := ad_PFg (B := 80000000) p6 ht2.2.1 ht2.1 D31 D32 D33 ht2.2.2 (inQ_le (inQ_add (inQ_add i1 (inQ_neg i2)) (inQ_mul hti hdx)) (by grind)) (by grind)
  refine pw_callV (As := [.long _, .long _]) h d_X8_height_111 mf_X8_adds mi_X8_adds ml_RX8_235 ⟨by decide, by decide, by decide⟩ (by assumption) rfl rfl (Nat.le_of_ble_eq_true rfl) trivial (c_X8_adds hM0 _ _ gb.1 gb.2.1) ?_
  intro ret7 sh7 I7 L7 R7_ hp7
  obtain ⟨e0, e1, eI, eL, eR⟩ := hp7
  subst e0
  have e1 := e1.symm
  have eR := eR.symm
  have eI := eI.symm
  subst e1
  subst eR
  subst eI
  refine ⟨rfl, ?_⟩
  have fV7 : frU m L L7 := by rw [eL]; exact frU_t fV6 (frU_F adL_fr)
  have p7 : PF L7 m (D * (6 * f) * spP pl n 0) ((((smV pl hg w F n cb x) / (6 * (f : Rat))) + -((smV pl hg w F n cb (pl 0)) / (6 * (f : Rat)))) + tltQ pl hg w F n f * ((x : Rat) - pl 0)) := by rw [eL]; exact gb.2.2
  clear eL
  refine pw_aload_n h 4 d_X8_height_114 rfl ?_
  refine pw_aload_n h 4 d_X8_height_115 rfl ?_
  refine pw_getR (j := (m + 12)) 8 h d_X8_height_116 fd_RX8_51 (by assumption) rfl (by assumption) ?_
  refine pw_iconst (x := 0) h d_X8_height_119 (by decide) ?_
  refine pw_iald (j := 0) h d_X8_height_120 (by assumption) (px_ix_nI (j := 0) (by decide) (by decide)) ?_
  refine pw_i2l h d_X8_height_121 ?_
  refine pw_lconst (x := 1) h d_X8_height_122 (by decide) ?_
  have gc := ad_PFg (B := 80000000) p7 (by decide) hh0.1 D31 D32 D33 (Nat.one_dvd _) (inQ_le (inQ_add (inQ_add (inQ_add i1 (inQ_neg i2)) (inQ_mul hti hdx)) hh0.2) (by grind)) (by grind)
  refine pw_callV (As := [.long _, .long _]) h d_X8_height_123 mf_X8_adds mi_X8_adds ml_RX8_235 ⟨by decide, by decide, by decide⟩ (by assumption) rfl rfl (Nat.le_of_ble_eq_true rfl) trivial (c_X8_adds hM0 _ _ gc.1 gc.2.1) ?_
  intro ret8 sh8 I8 L8 R8_ hp8
  obtain ⟨e0, e1, eI, eL, eR⟩ := hp8
  subst e0
  have e1 := e1.symm
  have eR := eR.symm
  have eI := eI.symm
  subst e1
  subst eR
  subst eI
  refine ⟨rfl, ?_⟩
  have fV8 : frU m L L8 := by rw [eL]; exact frU_t fV7 (frU_F adL_fr)
  have p8 : PF L8 m (D * (6 * f) * spP pl n 0) (heiQ pl hg w F n f x) := by rw [eL]; exact gc.2.2
  clear eL
  refine pw_vret h hr d_X8_height_126 (by decide) (by decide) ?_
  exact ⟨rfl, rfl, rfl, rfl, fV8, p8⟩
