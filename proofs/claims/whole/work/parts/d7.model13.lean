set_option maxHeartbeats 4000000 in
set_option maxRecDepth 100000 in
theorem c_X8_pushes1 {sh : Sh} {I : IM} {L : LM} {R : RM} {m n i k : Nat} {pl : Nat → Nat} {hg w : Nat → Rat} {F H q : Rat} {v : Int32} (hM : ModF sh R m) (hB : okB pl hg w F H n) (hS : SolM I m n pl hg w F) (hmo : ∀ i, i < n + 2 → RI (L (m + 16) i) (momM pl hg w F n i)) (hd : RI (L m 29) (cH (spR pl n) (n + 1))) (ev : v = nI k) (hk : k < n + 1) (hkD : k = i ∨ k + 1 = i) (hq : PF L m (dnN pl n i) q) (hqi : inQ q 1000000) : PMet M_X8_pushes [.ref m, .int v, .int 1, .long 1] sh I L R (pusP sh I L R m (dnN pl n i) (q + (1 * pT1 pl hg w F n k) + (1 * ((sQ (pbF w (pl k) (pl (k + 1))) (pl (k + 1))) / spR pl n k)))) := by
  refine PMet.of mf_X8_pushes (Nat.le_of_ble_eq_true rfl) ?_
  intro X h hr hml
  have hml : (xc X).maxLocals = 10 := hml
  have h : PXok X RX8 cX8_pushes 4 0 0 := h
  have hr : PXr X none "pushes" _ 0 0 := hr
  have hM0 := hM
  obtain ⟨f0, f1, f2, f3, f4, f5, f6, f7, f8, f9, f10, f11, f12, f13, f14, f15, f16, f17, f18, f19, f20, f21, f22, f23, f24, f25, f26, f27, g1, g2, g3, g4, g5, g6, g7, g8, g9, g10, g11, g12, g13, g14, g15, g16, g17, g18, g19, g20, g21, g22, g23, g24, g25, g26, g27⟩ := hM
  have hP := hB.1
  have h5 := hP.1
  have hx7 : px_ix v 7 k := k_ix ev (by omega) (by decide)
  have hx71 : px_ix (v + 1) 7 (k + 1) := k_ix (k_up rfl ev) (by omega) (by decide)
  have b0 := isP_le hP (show k < n + 2 by omega)
  have b1 := isP_le hP (show k + 1 < n + 2 by omega)
  have blt := hP.2.2 k (by omega)
  have x0 := hS.2.1 k (by omega)
  have x1 := hS.2.1 (k + 1) (by omega)
  show PW X 0 [(0, .ref m), (1, .int v), (2, .int 1), (3, .long 1)] [] sh I L R 0 0
  refine pw_aload_n h 0 d_X8_pushes_0 rfl ?_
  refine pw_iload_n h 1 d_X8_pushes_1 rfl ?_
  refine pw_callV (As := [.int _]) h d_X8_pushes_2 mf_X8_side mi_X8_side ml_RX8_226 ⟨by decide, by decide, by decide⟩ (by assumption) rfl rfl (Nat.le_of_ble_eq_true rfl) trivial (c_X8_side hM0 ev (by omega)) ?_
  refine PKk.ret ?_
  refine pw_nmL (fun v5_5 e5_5 => ?_)
  refine pw_lstore (lv' := [(5, .long v5_5), (0, .ref m), (1, .int v), (2, .int 1), (3, .long 1)]) h d_X8_pushes_5 _ hml (by decide) rfl ?_
  have hv5 : v5_5.toInt = (spP pl n k : Int) := by rw [e5_5]; exact (sm_in hP hS hk).1
  have hb := pu_b hP hd hv5
  have hi1 := pT1_in hB hk
  have hi2 := dv_in (pbf_in hP hk hB.2.1).1 (spR_in hP k).2.1 (by grind)
  refine pw_aload_n h 1 d_X8_pushes_7 rfl ?_
  refine pw_lload_n h 4 d_X8_pushes_8 rfl ?_
  refine pw_aload_n h 1 d_X8_pushes_9 rfl ?_
  refine pw_getR (j := (m + 16)) 8 h d_X8_pushes_10 fd_RX8_64 (by assumption) rfl (by assumption) ?_
  refine pw_iload_n h 2 d_X8_pushes_13 rfl ?_
  refine pw_iconst (x := 1) h d_X8_pushes_14 (by decide) ?_
  refine pw_iadd h d_X8_pushes_15 ?_
  refine pw_lald h d_X8_pushes_16 (by assumption) (by assumption) ?_
  refine pw_aload_n h 1 d_X8_pushes_17 rfl ?_
  refine pw_getR (j := (m + 16)) 8 h d_X8_pushes_18 fd_RX8_64 (by assumption) rfl (by assumption) ?_
  refine pw_iload_n h 2 d_X8_pushes_21 rfl ?_
  refine pw_lald h d_X8_pushes_22 (by assumption) (by assumption) ?_
  refine pw_lsub h d_X8_pushes_23 ?_
  refine pw_lmul h d_X8_pushes_24 ?_
  refine pw_lload h 0 d_X8_pushes_25 rfl ?_
  refine pw_ldc2 h d_X8_pushes_27 ck_RX8_213 ?_
  refine pw_lmul h d_X8_pushes_30 ?_
  refine pw_aload_n h 1 d_X8_pushes_31 rfl ?_
  refine pw_getL 8 h d_X8_pushes_32 fd_RX8_232 (by assumption) rfl ?_
  refine pw_lmul h d_X8_pushes_35 ?_
  have ga := ad_PF (t := (1 * pT1 pl hg w F n k)) hq (by rw [hb]; have := pu_pos (k := k) hP; omega) (pu_a hB hmo hd RI_1 (Or.inl rfl) hv5 hk) (dn_ok hP i).1 (dn_ok hP i).2 (by rw [hb]; exact dn_d1 hkD) (add1_in hqi (sg_in (Or.inl rfl) hi1))
  refine pw_callV (As := [.long _, .long _]) h d_X8_pushes_36 mf_X8_adds mi_X8_adds ml_RX8_235 ⟨by decide, by decide, by decide⟩ (by assumption) rfl rfl (Nat.le_of_ble_eq_true rfl) trivial (c_X8_adds hM0 _ _ ga.1 ga.2.1) ?_
  intro ret2 sh2 I2 L2 R2_ hp2
  obtain ⟨e0, e1, eI, eL, eR⟩ := hp2
  subst e0
  have e1 := e1.symm
  have eR := eR.symm
  have eI := eI.symm
  subst e1
  subst eR
  subst eI
  refine ⟨rfl, ?_⟩
  have f2 : frF m L L2 := by rw [eL]; exact adL_fr
  have g2 : PF L2 m (dnN pl n i) (q + (1 * pT1 pl hg w F n k)) := by rw [eL]; exact ga.2.2
  clear eL
  refine pw_lconst (x := 0) h d_X8_pushes_39 (by decide) ?_
  refine pw_nmL (fun v7_40 e7_40 => ?_)
  refine pw_lstore (lv' := [(7, .long v7_40), (5, .long v5_5), (0, .ref m), (1, .int v), (2, .int 1), (3, .long 1)]) h d_X8_pushes_40 _ hml (by decide) rfl ?_
  refine pw_aload_n h 2 d_X8_pushes_42 rfl ?_
  refine pw_getR (j := (m + 11)) 8 h d_X8_pushes_43 fd_RX8_48 (by assumption) rfl (by assumption) ?_
  refine pw_iload_n h 3 d_X8_pushes_46 rfl ?_
  refine pw_iald h d_X8_pushes_47 (by assumption) (by assumption) ?_
  refine pw_iconst (x := 1) h d_X8_pushes_48 (by decide) ?_
  refine pw_iadd h d_X8_pushes_49 ?_
  refine pw_nmI (fun v9_50 e9_50 => ?_)
  refine pw_istore (lv' := [(9, .int v9_50), (7, .long v7_40), (5, .long v5_5), (0, .ref m), (1, .int v), (2, .int 1), (3, .long 1)]) h d_X8_pushes_50 _ hml (by decide) rfl ?_
  have cut_52 : ∀ (N p : Nat) (sm : Int64) (u : Int32), pl (k + 1) < p + N → pl k < p → p ≤ pl (k + 1) → u = nI p → RI sm (sQ (pbF w (pl k) (pl (k + 1))) p) → PW X 52 [(0, .ref m), (1, .int v), (2, .int 1), (3, .long 1), (5, .long v5_5), (7, .long sm), (9, .int u)] [] sh I L2 R 0 0 := by
    intro N
    induction N with
    | zero => intros; omega
    | succ N ih =>
      intro p sm u hN hp1 hp2 eu hsm
      refine pw_iload h 6 d_X8_pushes_52 rfl ?_
      refine pw_aload_n h 0 d_X8_pushes_54 rfl ?_
      refine pw_getR (j := (m + 11)) 8 h d_X8_pushes_55 fd_RX8_48 (by assumption) rfl (by assumption) ?_
      refine pw_iload_n h 1 d_X8_pushes_58 rfl ?_
      refine pw_iconst (x := 1) h d_X8_pushes_59 (by decide) ?_
      refine pw_iadd h d_X8_pushes_60 ?_
      refine pw_iald h d_X8_pushes_61 (by assumption) (by assumption) ?_
      refine pw_icmp_ge 124 h d_X8_pushes_62 (by decide) (fun c_62 => ?_) (fun c_62 => ?_)
      · skip
        have hge : pl (k + 1) ≤ p := k_ge eu x1 (by omega) (by omega) c_62
        have e9 : p = pl (k + 1) := by omega
        subst e9
        refine pw_aload_n h 0 d_X8_pushes_124 rfl ?_
        refine pw_lload_n h 3 d_X8_pushes_125 rfl ?_
        refine pw_lload h 5 d_X8_pushes_126 rfl ?_
        refine pw_lmul h d_X8_pushes_128 ?_
        refine pw_lload h 4 d_X8_pushes_129 rfl ?_
        have gb := ad_PF (t := (1 * ((sQ (pbF w (pl k) (pl (k + 1))) (pl (k + 1))) / spR pl n k))) g2 (by rw [hv5]; have := (sp_le12 hP k).1; omega) (pu_c hP hv5 RI_1 (Or.inl rfl) hsm (pbf_in hP hk hB.2.1).1) (dn_ok hP i).1 (dn_ok hP i).2 (by rw [hv5]; exact dn_d2 hkD) (add2_in hqi (sg_in (Or.inl rfl) hi1) (sg_in (Or.inl rfl) hi2))
        refine pw_callV (As := [.long _, .long _]) h d_X8_pushes_131 mf_X8_adds mi_X8_adds ml_RX8_235 ⟨by decide, by decide, by decide⟩ (by assumption) rfl rfl (Nat.le_of_ble_eq_true rfl) trivial (c_X8_adds hM0 _ _ gb.1 gb.2.1) ?_
        intro ret3 sh3 I3 L3 R3_ hp3
        obtain ⟨e0, e1, eI, eL, eR⟩ := hp3
        subst e0
        have e1 := e1.symm
        have eR := eR.symm
        have eI := eI.symm
        subst e1
        subst eR
        subst eI
        refine ⟨rfl, ?_⟩
        have f3 : frF m L2 L3 := by rw [eL]; exact adL_fr
        have g3 : PF L3 m (dnN pl n i) (q + (1 * pT1 pl hg w F n k) + (1 * ((sQ (pbF w (pl k) (pl (k + 1))) (pl (k + 1))) / spR pl n k))) := by rw [eL]; exact gb.2.2
        clear eL
        refine pw_vret h hr d_X8_pushes_134 (by decide) (by decide) ?_
        exact ⟨rfl, rfl, rfl, rfl, frF_t f2 f3, g3⟩
      · skip
        have hlt : p < pl (k + 1) := k_lt eu x1 (by omega) (by omega) c_62
        have hxp : px_ix u 13 p := k_ix eu (by omega) (by decide)
        have hW := RI_32 (I (m + 13) p)
        rw [hS.2.2.2.1 p (by omega)] at hW
        refine pw_lload h 5 d_X8_pushes_65 rfl ?_
        refine pw_iload_n h 2 d_X8_pushes_67 rfl ?_
        refine pw_if_eq 95 h d_X8_pushes_68 (by decide) (fun c_68 => ?_) (fun c_68 => ?_)
        · exact absurd c_68 (by decide)
        · skip
          refine pw_aload_n h 0 d_X8_pushes_71 rfl ?_
          refine pw_getR (j := (m + 13)) 8 h d_X8_pushes_72 fd_RX8_54 (by assumption) rfl (by assumption) ?_
          refine pw_iload h 6 d_X8_pushes_75 rfl ?_
          refine pw_iald h d_X8_pushes_77 (by assumption) (by assumption) ?_
          refine pw_i2l h d_X8_pushes_78 ?_
          refine pw_aload_n h 0 d_X8_pushes_79 rfl ?_
          refine pw_getR (j := (m + 11)) 8 h d_X8_pushes_80 fd_RX8_48 (by assumption) rfl (by assumption) ?_
          refine pw_iload_n h 1 d_X8_pushes_83 rfl ?_
          refine pw_iconst (x := 1) h d_X8_pushes_84 (by decide) ?_
          refine pw_iadd h d_X8_pushes_85 ?_
          refine pw_iald h d_X8_pushes_86 (by assumption) (by assumption) ?_
          refine pw_iload h 6 d_X8_pushes_87 rfl ?_
          refine pw_isub h d_X8_pushes_89 ?_
          refine pw_i2l h d_X8_pushes_90 ?_
          refine pw_lmul h d_X8_pushes_91 ?_
          refine pw_goto 115 h d_X8_pushes_92 (by decide) ?_
          refine pw_ladd h d_X8_pushes_115 ?_
          refine pw_nmL (fun v7_116 e7_116 => ?_)
          refine pw_lstore (lv' := [(7, .long v7_116), (0, .ref m), (1, .int v), (2, .int 1), (3, .long 1), (5, .long v5_5), (9, .int u)]) h d_X8_pushes_116 _ hml (by decide) rfl ?_
          obtain ⟨v9_118, e9_118⟩ : ∃ z : Int32, z = u + (1) := ⟨_, rfl⟩
          refine pw_iinc (lv' := [(9, .int v9_118), (7, .long v7_116), (0, .ref m), (1, .int v), (2, .int 1), (3, .long 1), (5, .long v5_5)]) v9_118 h d_X8_pushes_118 6 rfl e9_118.symm _ hml (by decide) rfl ?_
          refine pw_goto 52 h d_X8_pushes_121 (by decide) ?_
          refine PW.perm [2, 3, 4, 5, 6, 1, 0] rfl ?_
          exact ih (p + 1) _ _ (by omega) (by omega) (by omega) (k_up e9_118 eu) (by rw [e7_116]; exact pb_s hsm hW (by rw [x1, eu]; exact (RI_dif (by omega) (by omega)).1) hp1)
  refine PW.perm [3, 4, 5, 6, 2, 1, 0] rfl ?_
  exact cut_52 (pl (k + 1)) (pl k + 1) _ _ (by omega) (by omega) (by omega) (e9_50.trans (k_up (by rw [x0]) rfl)) (by rw [e7_40]; exact pb_0.1)

set_option maxHeartbeats 4000000 in
set_option maxRecDepth 100000 in
theorem c_X8_pushes0 {sh : Sh} {I : IM} {L : LM} {R : RM} {m n i k : Nat} {pl : Nat → Nat} {hg w : Nat → Rat} {F H q : Rat} {v : Int32} (hM : ModF sh R m) (hB : okB pl hg w F H n) (hS : SolM I m n pl hg w F) (hmo : ∀ i, i < n + 2 → RI (L (m + 16) i) (momM pl hg w F n i)) (hd : RI (L m 29) (cH (spR pl n) (n + 1))) (ev : v = nI k) (hk : k < n + 1) (hkD : k = i ∨ k + 1 = i) (hq : PF L m (dnN pl n i) q) (hqi : inQ q 1000000) : PMet M_X8_pushes [.ref m, .int v, .int 0, .long (-1)] sh I L R (pusP sh I L R m (dnN pl n i) (q + ((-1) * pT1 pl hg w F n k) + ((-1) * ((sQ (pfF w (pl k) (pl (k + 1))) (pl (k + 1))) / spR pl n k)))) := by
  refine PMet.of mf_X8_pushes (Nat.le_of_ble_eq_true rfl) ?_
  intro X h hr hml
  have hml : (xc X).maxLocals = 10 := hml
  have h : PXok X RX8 cX8_pushes 4 0 0 := h
  have hr : PXr X none "pushes" _ 0 0 := hr
  have hM0 := hM
  obtain ⟨f0, f1, f2, f3, f4, f5, f6, f7, f8, f9, f10, f11, f12, f13, f14, f15, f16, f17, f18, f19, f20, f21, f22, f23, f24, f25, f26, f27, g1, g2, g3, g4, g5, g6, g7, g8, g9, g10, g11, g12, g13, g14, g15, g16, g17, g18, g19, g20, g21, g22, g23, g24, g25, g26, g27⟩ := hM
  have hP := hB.1
  have h5 := hP.1
  have hx7 : px_ix v 7 k := k_ix ev (by omega) (by decide)
  have hx71 : px_ix (v + 1) 7 (k + 1) := k_ix (k_up rfl ev) (by omega) (by decide)
  have b0 := isP_le hP (show k < n + 2 by omega)
  have b1 := isP_le hP (show k + 1 < n + 2 by omega)
  have blt := hP.2.2 k (by omega)
  have x0 := hS.2.1 k (by omega)
  have x1 := hS.2.1 (k + 1) (by omega)
  show PW X 0 [(0, .ref m), (1, .int v), (2, .int 0), (3, .long (-1))] [] sh I L R 0 0
  refine pw_aload_n h 0 d_X8_pushes_0 rfl ?_
  refine pw_iload_n h 1 d_X8_pushes_1 rfl ?_
  refine pw_callV (As := [.int _]) h d_X8_pushes_2 mf_X8_side mi_X8_side ml_RX8_226 ⟨by decide, by decide, by decide⟩ (by assumption) rfl rfl (Nat.le_of_ble_eq_true rfl) trivial (c_X8_side hM0 ev (by omega)) ?_
  refine PKk.ret ?_
  refine pw_nmL (fun v5_5 e5_5 => ?_)
  refine pw_lstore (lv' := [(5, .long v5_5), (0, .ref m), (1, .int v), (2, .int 0), (3, .long (-1))]) h d_X8_pushes_5 _ hml (by decide) rfl ?_
  have hv5 : v5_5.toInt = (spP pl n k : Int) := by rw [e5_5]; exact (sm_in hP hS hk).1
  have hb := pu_b hP hd hv5
  have hi1 := pT1_in hB hk
  have hi2 := dv_in (pbf_in hP hk hB.2.1).2 (spR_in hP k).2.1 (by grind)
  refine pw_aload_n h 1 d_X8_pushes_7 rfl ?_
  refine pw_lload_n h 4 d_X8_pushes_8 rfl ?_
  refine pw_aload_n h 1 d_X8_pushes_9 rfl ?_
  refine pw_getR (j := (m + 16)) 8 h d_X8_pushes_10 fd_RX8_64 (by assumption) rfl (by assumption) ?_
  refine pw_iload_n h 2 d_X8_pushes_13 rfl ?_
  refine pw_iconst (x := 1) h d_X8_pushes_14 (by decide) ?_
  refine pw_iadd h d_X8_pushes_15 ?_
  refine pw_lald h d_X8_pushes_16 (by assumption) (by assumption) ?_
  refine pw_aload_n h 1 d_X8_pushes_17 rfl ?_
  refine pw_getR (j := (m + 16)) 8 h d_X8_pushes_18 fd_RX8_64 (by assumption) rfl (by assumption) ?_
  refine pw_iload_n h 2 d_X8_pushes_21 rfl ?_
  refine pw_lald h d_X8_pushes_22 (by assumption) (by assumption) ?_
  refine pw_lsub h d_X8_pushes_23 ?_
  refine pw_lmul h d_X8_pushes_24 ?_
  refine pw_lload h 0 d_X8_pushes_25 rfl ?_
  refine pw_ldc2 h d_X8_pushes_27 ck_RX8_213 ?_
  refine pw_lmul h d_X8_pushes_30 ?_
  refine pw_aload_n h 1 d_X8_pushes_31 rfl ?_
  refine pw_getL 8 h d_X8_pushes_32 fd_RX8_232 (by assumption) rfl ?_
  refine pw_lmul h d_X8_pushes_35 ?_
  have ga := ad_PF (t := ((-1) * pT1 pl hg w F n k)) hq (by rw [hb]; have := pu_pos (k := k) hP; omega) (pu_a hB hmo hd RI_m1 (Or.inr rfl) hv5 hk) (dn_ok hP i).1 (dn_ok hP i).2 (by rw [hb]; exact dn_d1 hkD) (add1_in hqi (sg_in (Or.inr rfl) hi1))
  refine pw_callV (As := [.long _, .long _]) h d_X8_pushes_36 mf_X8_adds mi_X8_adds ml_RX8_235 ⟨by decide, by decide, by decide⟩ (by assumption) rfl rfl (Nat.le_of_ble_eq_true rfl) trivial (c_X8_adds hM0 _ _ ga.1 ga.2.1) ?_
  intro ret2 sh2 I2 L2 R2_ hp2
  obtain ⟨e0, e1, eI, eL, eR⟩ := hp2
  subst e0
  have e1 := e1.symm
  have eR := eR.symm
  have eI := eI.symm
  subst e1
  subst eR
  subst eI
  refine ⟨rfl, ?_⟩
  have f2 : frF m L L2 := by rw [eL]; exact adL_fr
  have g2 : PF L2 m (dnN pl n i) (q + ((-1) * pT1 pl hg w F n k)) := by rw [eL]; exact ga.2.2
  clear eL
  refine pw_lconst (x := 0) h d_X8_pushes_39 (by decide) ?_
  refine pw_nmL (fun v7_40 e7_40 => ?_)
  refine pw_lstore (lv' := [(7, .long v7_40), (5, .long v5_5), (0, .ref m), (1, .int v), (2, .int 0), (3, .long (-1))]) h d_X8_pushes_40 _ hml (by decide) rfl ?_
  refine pw_aload_n h 2 d_X8_pushes_42 rfl ?_
  refine pw_getR (j := (m + 11)) 8 h d_X8_pushes_43 fd_RX8_48 (by assumption) rfl (by assumption) ?_
  refine pw_iload_n h 3 d_X8_pushes_46 rfl ?_
  refine pw_iald h d_X8_pushes_47 (by assumption) (by assumption) ?_
  refine pw_iconst (x := 1) h d_X8_pushes_48 (by decide) ?_
  refine pw_iadd h d_X8_pushes_49 ?_
  refine pw_nmI (fun v9_50 e9_50 => ?_)
  refine pw_istore (lv' := [(9, .int v9_50), (7, .long v7_40), (5, .long v5_5), (0, .ref m), (1, .int v), (2, .int 0), (3, .long (-1))]) h d_X8_pushes_50 _ hml (by decide) rfl ?_
  have cut_52 : ∀ (N p : Nat) (sm : Int64) (u : Int32), pl (k + 1) < p + N → pl k < p → p ≤ pl (k + 1) → u = nI p → RI sm (sQ (pfF w (pl k) (pl (k + 1))) p) → PW X 52 [(0, .ref m), (1, .int v), (2, .int 0), (3, .long (-1)), (5, .long v5_5), (7, .long sm), (9, .int u)] [] sh I L2 R 0 0 := by
    intro N
    induction N with
    | zero => intros; omega
    | succ N ih =>
      intro p sm u hN hp1 hp2 eu hsm
      refine pw_iload h 6 d_X8_pushes_52 rfl ?_
      refine pw_aload_n h 0 d_X8_pushes_54 rfl ?_
      refine pw_getR (j := (m + 11)) 8 h d_X8_pushes_55 fd_RX8_48 (by assumption) rfl (by assumption) ?_
      refine pw_iload_n h 1 d_X8_pushes_58 rfl ?_
      refine pw_iconst (x := 1) h d_X8_pushes_59 (by decide) ?_
      refine pw_iadd h d_X8_pushes_60 ?_
      refine pw_iald h d_X8_pushes_61 (by assumption) (by assumption) ?_
      refine pw_icmp_ge 124 h d_X8_pushes_62 (by decide) (fun c_62 => ?_) (fun c_62 => ?_)
      · skip
        have hge : pl (k + 1) ≤ p := k_ge eu x1 (by omega) (by omega) c_62
        have e9 : p = pl (k + 1) := by omega
        subst e9
        refine pw_aload_n h 0 d_X8_pushes_124 rfl ?_
        refine pw_lload_n h 3 d_X8_pushes_125 rfl ?_
        refine pw_lload h 5 d_X8_pushes_126 rfl ?_
        refine pw_lmul h d_X8_pushes_128 ?_
        refine pw_lload h 4 d_X8_pushes_129 rfl ?_
        have gb := ad_PF (t := ((-1) * ((sQ (pfF w (pl k) (pl (k + 1))) (pl (k + 1))) / spR pl n k))) g2 (by rw [hv5]; have := (sp_le12 hP k).1; omega) (pu_c hP hv5 RI_m1 (Or.inr rfl) hsm (pbf_in hP hk hB.2.1).2) (dn_ok hP i).1 (dn_ok hP i).2 (by rw [hv5]; exact dn_d2 hkD) (add2_in hqi (sg_in (Or.inr rfl) hi1) (sg_in (Or.inr rfl) hi2))
        refine pw_callV (As := [.long _, .long _]) h d_X8_pushes_131 mf_X8_adds mi_X8_adds ml_RX8_235 ⟨by decide, by decide, by decide⟩ (by assumption) rfl rfl (Nat.le_of_ble_eq_true rfl) trivial (c_X8_adds hM0 _ _ gb.1 gb.2.1) ?_
        intro ret3 sh3 I3 L3 R3_ hp3
        obtain ⟨e0, e1, eI, eL, eR⟩ := hp3
        subst e0
        have e1 := e1.symm
        have eR := eR.symm
        have eI := eI.symm
        subst e1
        subst eR
        subst eI
        refine ⟨rfl, ?_⟩
        have f3 : frF m L2 L3 := by rw [eL]; exact adL_fr
        have g3 : PF L3 m (dnN pl n i) (q + ((-1) * pT1 pl hg w F n k) + ((-1) * ((sQ (pfF w (pl k) (pl (k + 1))) (pl (k + 1))) / spR pl n k))) := by rw [eL]; exact gb.2.2
        clear eL
        refine pw_vret h hr d_X8_pushes_134 (by decide) (by decide) ?_
        exact ⟨rfl, rfl, rfl, rfl, frF_t f2 f3, g3⟩
      · skip
        have hlt : p < pl (k + 1) := k_lt eu x1 (by omega) (by omega) c_62
        have hxp : px_ix u 13 p := k_ix eu (by omega) (by decide)
        have hW := RI_32 (I (m + 13) p)
        rw [hS.2.2.2.1 p (by omega)] at hW
        refine pw_lload h 5 d_X8_pushes_65 rfl ?_
        refine pw_iload_n h 2 d_X8_pushes_67 rfl ?_
        refine pw_if_eq 95 h d_X8_pushes_68 (by decide) (fun c_68 => ?_) (fun c_68 => ?_)
        · skip
          refine pw_aload_n h 0 d_X8_pushes_95 rfl ?_
          refine pw_getR (j := (m + 13)) 8 h d_X8_pushes_96 fd_RX8_54 (by assumption) rfl (by assumption) ?_
          refine pw_iload h 6 d_X8_pushes_99 rfl ?_
          refine pw_iald h d_X8_pushes_101 (by assumption) (by assumption) ?_
          refine pw_ineg h d_X8_pushes_102 ?_
          refine pw_i2l h d_X8_pushes_103 ?_
          refine pw_iload h 6 d_X8_pushes_104 rfl ?_
          refine pw_aload_n h 0 d_X8_pushes_106 rfl ?_
          refine pw_getR (j := (m + 11)) 8 h d_X8_pushes_107 fd_RX8_48 (by assumption) rfl (by assumption) ?_
          refine pw_iload_n h 1 d_X8_pushes_110 rfl ?_
          refine pw_iald h d_X8_pushes_111 (by assumption) (by assumption) ?_
          refine pw_isub h d_X8_pushes_112 ?_
          refine pw_i2l h d_X8_pushes_113 ?_
          refine pw_lmul h d_X8_pushes_114 ?_
          refine pw_ladd h d_X8_pushes_115 ?_
          refine pw_nmL (fun v7_116 e7_116 => ?_)
          refine pw_lstore (lv' := [(7, .long v7_116), (0, .ref m), (1, .int v), (2, .int 0), (3, .long (-1)), (5, .long v5_5), (9, .int u)]) h d_X8_pushes_116 _ hml (by decide) rfl ?_
          obtain ⟨v9_118, e9_118⟩ : ∃ z : Int32, z = u + (1) := ⟨_, rfl⟩
          refine pw_iinc (lv' := [(9, .int v9_118), (7, .long v7_116), (0, .ref m), (1, .int v), (2, .int 0), (3, .long (-1)), (5, .long v5_5)]) v9_118 h d_X8_pushes_118 6 rfl e9_118.symm _ hml (by decide) rfl ?_
          refine pw_goto 52 h d_X8_pushes_121 (by decide) ?_
          refine PW.perm [2, 3, 4, 5, 6, 1, 0] rfl ?_
          exact ih (p + 1) _ _ (by omega) (by omega) (by omega) (k_up e9_118 eu) (by rw [e7_116]; exact pf_s hsm (neg_RI (hS.2.2.2.1 p (by omega)) (hB.2.1 p (by omega)).1) (by rw [x0, eu]; exact (RI_dif (by omega) (by omega)).1) hp1)
        · exact absurd rfl c_68
  refine PW.perm [3, 4, 5, 6, 2, 1, 0] rfl ?_
  exact cut_52 (pl (k + 1)) (pl k + 1) _ _ (by omega) (by omega) (by omega) (e9_50.trans (k_up (by rw [x0]) rfl)) (by rw [e7_40]; exact pb_0.2)
