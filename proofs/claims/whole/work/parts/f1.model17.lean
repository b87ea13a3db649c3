set_option maxHeartbeats 4000000 in
set_option maxRecDepth 100000 in
theorem c_X8_slope {sh : Sh} {I : IM} {L : LM} {R : RM} {m n D f : Nat} {pl : Nat → Nat} {hg w : Nat → Rat} {F H : Rat} (hM : ModF sh R m) (hB : okB pl hg w F H n) (hS : SolM I m n pl hg w F) (hlo : loF L m n pl hg w F) (hDQ : DQ (spR pl n) n = (D : Rat)) (hD : 0 < D) (hDl : D ≤ 204472320) (hf : (I m 7).toInt = (f : Int)) (h1 : 1 ≤ f) (h2 : f ≤ 20) {x : Nat} {u : Int32} (eu : u = nI x) (hx : x ≤ 12) : PMet M_X8_slope [.ref m, .int u] sh I L R (tltP sh I L R m (D * (6 * f) * spP pl n 0) (sloQ pl hg w F n f x)) := by
  refine PMet.of mf_X8_slope (Nat.le_of_ble_eq_true rfl) ?_
  intro X h hr hml
  have hml : (xc X).maxLocals = 6 := hml
  have h : PXok X RX8 cX8_slope 6 0 0 := h
  have hr : PXr X none "slope" _ 0 0 := hr
  have hM0 := hM
  obtain ⟨f0, f1, f2, f3, f4, f5, f6, f7, f8, f9, f10, f11, f12, f13, f14, f15, f16, f17, f18, f19, f20, f21, f22, f23, f24, f25, f26, f27, g1, g2, g3, g4, g5, g6, g7, g8, g9, g10, g11, g12, g13, g14, g15, g16, g17, g18, g19, g20, g21, g22, g23, g24, g25, g26, g27⟩ := hM
  have hP := hB.1
  obtain ⟨D61, D62, D63⟩ := D6_ok hD hDl h1 h2
  have hss := sp_le12 hP 0
  obtain ⟨D31, D32, D33⟩ := D3_ok D61 D62 hss.1 hss.2
  show PW X 0 [(0, .ref m), (1, .int u)] [] sh I L R 0 0
  refine pw_aload_n h 0 d_X8_slope_0 rfl ?_
  refine pw_callV (As := []) h d_X8_slope_1 mf_X8_tilts mi_X8_tilts ml_RX8_261 ⟨by decide, by decide, by decide⟩ (by assumption) rfl rfl (Nat.le_of_ble_eq_true rfl) trivial (c_X8_tilts hM0 hB hS hlo hDQ hD hDl hf h1 h2) ?_
  intro ret1 sh1 I1 L1 R1_ hp1
  obtain ⟨e0, e1, eR, eI, fU1, p1⟩ := hp1
  subst e0
  have e1 := e1.symm
  have eR := eR.symm
  have eI := eI.symm
  subst e1
  subst eR
  subst eI
  refine ⟨rfl, ?_⟩
  have hlo1 := loF_U fU1 hlo
  refine pw_aload_n h 0 d_X8_slope_4 rfl ?_
  refine pw_getL 8 h d_X8_slope_5 fd_RX8_202 (by assumption) rfl ?_
  refine pw_nmL (fun v2_8 e2_8 => ?_)
  refine pw_lstore_n (lv' := [(2, .long v2_8), (0, .ref m), (1, .int u)]) h d_X8_slope_8 rfl _ hml (by decide) rfl ?_
  refine pw_aload_n h 1 d_X8_slope_9 rfl ?_
  refine pw_getL 8 h d_X8_slope_10 fd_RX8_44 (by assumption) rfl ?_
  refine pw_nmL (fun v4_13 e4_13 => ?_)
  refine pw_lstore (lv' := [(4, .long v4_13), (2, .long v2_8), (0, .ref m), (1, .int u)]) h d_X8_slope_13 _ hml (by decide) rfl ?_
  refine pw_aload_n h 2 d_X8_slope_15 rfl ?_
  refine pw_iload_n h 3 d_X8_slope_16 rfl ?_
  refine pw_iconst (x := 1) h d_X8_slope_17 (by decide) ?_
  refine pw_callV (As := [.int _, .int _]) h d_X8_slope_18 mf_X8_sums mi_X8_sums ml_RX8_257 ⟨by decide, by decide, by decide⟩ (by assumption) rfl rfl (Nat.le_of_ble_eq_true rfl) trivial (c_X8_sums hM0 hB hS hlo1 hDQ hD hDl cc_1 eu hx) ?_
  intro ret2 sh2 I2 L2 R2_ hp2
  obtain ⟨e0, e1, eR, eI, fU2, r2, d2⟩ := hp2
  subst e0
  have e1 := e1.symm
  have eR := eR.symm
  have eI := eI.symm
  subst e1
  subst eR
  subst eI
  refine ⟨rfl, ?_⟩
  have fV2 : frU m L L2 := frU_t fU1 fU2
  refine pw_aload_n h 2 d_X8_slope_21 rfl ?_
  refine pw_aload_n h 2 d_X8_slope_22 rfl ?_
  refine pw_getL 8 h d_X8_slope_23 fd_RX8_251 (by assumption) rfl ?_
  refine pw_aload_n h 2 d_X8_slope_26 rfl ?_
  refine pw_getL 8 h d_X8_slope_27 fd_RX8_254 (by assumption) rfl ?_
  refine pw_ldc2 h d_X8_slope_30 ck_RX8_211 ?_
  refine pw_lmul h d_X8_slope_33 ?_
  refine pw_aload_n h 2 d_X8_slope_34 rfl ?_
  refine pw_getI 8 h d_X8_slope_35 fd_RX8_28 (by assumption) rfl ?_
  refine pw_i2l h d_X8_slope_38 ?_
  refine pw_lmul h d_X8_slope_39 ?_
  have hq1 := mk_6 (x := I m 7) r2 d2 hD hDl hf h1 h2 (inQ_le (Q_3 hB hx) (by grind))
  have hk := mk_PFg (L := L2) (m := m) (in_lo (num_in r2 d2 hD (D_inQ hDl) (Q_3 hB hx) (by grind))) hq1.2.1 hq1.1 D31 (Nat.dvd_trans hq1.2.2.1 (Nat.dvd_mul_right _ _))
  refine pw_callV (As := [.long _, .long _]) h d_X8_slope_40 mf_X8_makes mi_X8_makes ml_RX8_205 ⟨by decide, by decide, by decide⟩ (by assumption) rfl rfl (Nat.le_of_ble_eq_true rfl) trivial (c_X8_makes hM0 _ _ hk.1) ?_
  intro ret3 sh3 I3 L3 R3_ hp3
  obtain ⟨e0, e1, eI, eL, eR⟩ := hp3
  subst e0
  have e1 := e1.symm
  have eR := eR.symm
  have eI := eI.symm
  subst e1
  subst eR
  subst eI
  refine ⟨rfl, ?_⟩
  have fV3 : frU m L L3 := by rw [eL]; exact frU_t fV2 (frU_F mkL_fr)
  have p3 : PF L3 m (D * (6 * f) * spP pl n 0) ((smV pl hg w F n (fun d => 3 * sq2 d) x) / (6 * (f : Rat))) := by rw [eL]; exact hk.2
  clear eL
  refine pw_aload_n h 2 d_X8_slope_43 rfl ?_
  refine pw_lload_n h 1 d_X8_slope_44 rfl ?_
  refine pw_lload h 0 d_X8_slope_45 rfl ?_
  have p1b : RF v2_8 v4_13 (tltQ pl hg w F n f) := by rw [e2_8, e4_13]; exact p1.1
  have ht := RF_t p1b p1.2
  have ga := ad_PFg (B := 7000000) p3 ht.2.1 ht.1 D31 D32 D33 ht.2.2 (inQ_le (inQ_add (dv6 (Q_3 hB hx) h1 (by grind)) (tlt_in hB hS h1)) (by grind)) (by grind)
  refine pw_callV (As := [.long _, .long _]) h d_X8_slope_47 mf_X8_adds mi_X8_adds ml_RX8_235 ⟨by decide, by decide, by decide⟩ (by assumption) rfl rfl (Nat.le_of_ble_eq_true rfl) trivial (c_X8_adds hM0 _ _ ga.1 ga.2.1) ?_
  intro ret4 sh4 I4 L4 R4_ hp4
  obtain ⟨e0, e1, eI, eL, eR⟩ := hp4
  subst e0
  have e1 := e1.symm
  have eR := eR.symm
  have eI := eI.symm
  subst e1
  subst eR
  subst eI
  refine ⟨rfl, ?_⟩
  have fV4 : frU m L L4 := by rw [eL]; exact frU_t fV3 (frU_F adL_fr)
  have p4 : PF L4 m (D * (6 * f) * spP pl n 0) (sloQ pl hg w F n f x) := by rw [eL]; exact ga.2.2
  clear eL
  refine pw_vret h hr d_X8_slope_50 (by decide) (by decide) ?_
  exact ⟨rfl, rfl, rfl, rfl, fV4, p4⟩
