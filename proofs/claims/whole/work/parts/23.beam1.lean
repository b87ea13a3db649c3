set_option maxHeartbeats 4000000 in
set_option maxRecDepth 100000 in
theorem c_X0_start {sh : Sh} {I : IM} {L : LM} {R : RM} {b : Nat} (hB : BeamF sh R b) (f : Int32) : PMet M_X0_start [.ref b, .int f] sh I L R (pRet none sh (u2 I b 0 0) (u2 L b 5 f.toInt64) R) := by
  refine PMet.of mf_X0_start (Nat.le_of_ble_eq_true rfl) ?_
  intro X h hr hml
  have hml : (xc X).maxLocals = 2 := hml
  have h : PXok X RX0 cX0_start 1 0 0 := h
  have hr : PXr X none "start" _ 0 0 := hr
  have hB0 := hB
  obtain ⟨f0, f1, f2, f3, f4, f5, f6, f7, f8, f9, f10, f11, g1, g2, g3, g9, g10, g11, g12, g13, g14, g15, g16⟩ := hB
  show PW X 0 [(0, .ref b), (1, .int f)] [] sh I L R 0 0
  refine pw_aload_n h 0 d_X0_start_0 rfl ?_
  refine pw_iconst (x := 0) h d_X0_start_1 (by decide) ?_
  refine pw_putI 0 h d_X0_start_2 fd_RX0_9 (by assumption) rfl rfl rfl rfl ?_
  refine pw_aload_n h 0 d_X0_start_5 rfl ?_
  refine pw_iload_n h 1 d_X0_start_6 rfl ?_
  refine pw_i2l h d_X0_start_7 ?_
  refine pw_putL 0 h d_X0_start_8 fd_RX0_30 (by assumption) rfl rfl rfl rfl ?_
  refine pw_vret h hr d_X0_start_11 (by decide) (by decide) ?_
  exact ⟨rfl, rfl, rfl, rfl, rfl⟩

set_option maxHeartbeats 4000000 in
set_option maxRecDepth 100000 in
theorem c_X0_cubeOf {x : Int64} {sh : Sh} {I : IM} {L : LM} {R : RM} : PMet M_X0_cubeOf [.long x] sh I L R (pRet (some (.long (cubL x))) sh I L R) := by
  refine PMet.of mf_X0_cubeOf (Nat.le_of_ble_eq_true rfl) ?_
  intro X h hr hml
  have hml : (xc X).maxLocals = 2 := hml
  have h : PXok X RX0 cX0_cubeOf 1 0 0 := h
  have hr : PXr X (some .long) "cubeOf" _ 0 0 := hr
  show PW X 0 [(0, .long x)] [] sh I L R 0 0
  refine pw_lload_n h 0 d_X0_cubeOf_0 rfl ?_
  refine pw_lconst (x := 0) h d_X0_cubeOf_1 (by decide) ?_
  refine pw_lcmp h d_X0_cubeOf_2 ?_
  refine pw_if_le 14 h d_X0_cubeOf_3 (by decide) (fun c_3 => ?_) (fun c_3 => ?_)
  · skip
    refine pw_lconst (x := 0) h d_X0_cubeOf_14 (by decide) ?_
    refine pw_lret h hr d_X0_cubeOf_15 (by decide) (by decide) ?_
    simp only [lc_le] at c_3
    first | exact ⟨by rw [show cubL x = 0 from if_pos c_3], rfl, rfl, rfl, rfl⟩ | exact ⟨by rw [show cubL x = x * x * x from if_neg c_3], rfl, rfl, rfl, rfl⟩
  · skip
    refine pw_lload_n h 0 d_X0_cubeOf_6 rfl ?_
    refine pw_lload_n h 0 d_X0_cubeOf_7 rfl ?_
    refine pw_lmul h d_X0_cubeOf_8 ?_
    refine pw_lload_n h 0 d_X0_cubeOf_9 rfl ?_
    refine pw_lmul h d_X0_cubeOf_10 ?_
    refine pw_goto 15 h d_X0_cubeOf_11 (by decide) ?_
    refine pw_lret h hr d_X0_cubeOf_15 (by decide) (by decide) ?_
    simp only [lc_le] at c_3
    first | exact ⟨by rw [show cubL x = 0 from if_pos c_3], rfl, rfl, rfl, rfl⟩ | exact ⟨by rw [show cubL x = x * x * x from if_neg c_3], rfl, rfl, rfl, rfl⟩

set_option maxHeartbeats 4000000 in
set_option maxRecDepth 100000 in
theorem c_X0_firstPush {sh : Sh} {I : IM} {L : LM} {R : RM} {b : Nat} (hB : BeamF sh R b) : PMet M_X0_firstPush [.ref b] sh I L R (pRet (some (.long (fpL I L b))) sh I L R) := by
  refine PMet.of mf_X0_firstPush (Nat.le_of_ble_eq_true rfl) ?_
  intro X h hr hml
  have hml : (xc X).maxLocals = 1 := hml
  have h : PXok X RX0 cX0_firstPush 1 0 0 := h
  have hr : PXr X (some .long) "firstPush" _ 0 0 := hr
  have hB0 := hB
  obtain ⟨f0, f1, f2, f3, f4, f5, f6, f7, f8, f9, f10, f11, g1, g2, g3, g9, g10, g11, g12, g13, g14, g15, g16⟩ := hB
  show PW X 0 [(0, .ref b)] [] sh I L R 0 0
  refine pw_aload_n h 0 d_X0_firstPush_0 rfl ?_
  refine pw_getR (j := (b + 1)) 0 h d_X0_firstPush_1 fd_RX0_15 (by assumption) rfl (by assumption) ?_
  refine pw_iconst (x := 1) h d_X0_firstPush_4 (by decide) ?_
  refine pw_iald (j := 1) h d_X0_firstPush_5 (by assumption) (px_ix_nI (j := 1) (by decide) (by decide)) ?_
  refine pw_i2l h d_X0_firstPush_6 ?_
  refine pw_aload_n h 0 d_X0_firstPush_7 rfl ?_
  refine pw_getL 0 h d_X0_firstPush_8 fd_RX0_36 (by assumption) rfl ?_
  refine pw_lmul h d_X0_firstPush_11 ?_
  refine pw_aload_n h 0 d_X0_firstPush_12 rfl ?_
  refine pw_getL 0 h d_X0_firstPush_13 fd_RX0_39 (by assumption) rfl ?_
  refine pw_lsub h d_X0_firstPush_16 ?_
  refine pw_lret h hr d_X0_firstPush_17 (by decide) (by decide) ?_
  exact ⟨rfl, rfl, rfl, rfl, rfl⟩

set_option maxHeartbeats 4000000 in
set_option maxRecDepth 100000 in
theorem c_X0_secondPush {sh : Sh} {I : IM} {L : LM} {R : RM} {b : Nat} (hB : BeamF sh R b) : PMet M_X0_secondPush [.ref b] sh I L R (pRet (some (.long (spL I L b))) sh I L R) := by
  refine PMet.of mf_X0_secondPush (Nat.le_of_ble_eq_true rfl) ?_
  intro X h hr hml
  have hml : (xc X).maxLocals = 1 := hml
  have h : PXok X RX0 cX0_secondPush 1 0 0 := h
  have hr : PXr X (some .long) "secondPush" _ 0 0 := hr
  have hB0 := hB
  obtain ⟨f0, f1, f2, f3, f4, f5, f6, f7, f8, f9, f10, f11, g1, g2, g3, g9, g10, g11, g12, g13, g14, g15, g16⟩ := hB
  show PW X 0 [(0, .ref b)] [] sh I L R 0 0
  refine pw_aload_n h 0 d_X0_secondPush_0 rfl ?_
  refine pw_getL 0 h d_X0_secondPush_1 fd_RX0_39 (by assumption) rfl ?_
  refine pw_aload_n h 0 d_X0_secondPush_4 rfl ?_
  refine pw_getR (j := (b + 1)) 0 h d_X0_secondPush_5 fd_RX0_15 (by assumption) rfl (by assumption) ?_
  refine pw_iconst (x := 0) h d_X0_secondPush_8 (by decide) ?_
  refine pw_iald (j := 0) h d_X0_secondPush_9 (by assumption) (px_ix_nI (j := 0) (by decide) (by decide)) ?_
  refine pw_i2l h d_X0_secondPush_10 ?_
  refine pw_aload_n h 0 d_X0_secondPush_11 rfl ?_
  refine pw_getL 0 h d_X0_secondPush_12 fd_RX0_36 (by assumption) rfl ?_
  refine pw_lmul h d_X0_secondPush_15 ?_
  refine pw_lsub h d_X0_secondPush_16 ?_
  refine pw_lret h hr d_X0_secondPush_17 (by decide) (by decide) ?_
  exact ⟨rfl, rfl, rfl, rfl, rfl⟩

set_option maxHeartbeats 4000000 in
set_option maxRecDepth 100000 in
theorem c_X0_heightBelow {sh : Sh} {I : IM} {L : LM} {R : RM} {b : Nat} (hB : BeamF sh R b) : PMet M_X0_heightBelow [.ref b] sh I L R (pRet (some (.long (hbL L b))) sh I L R) := by
  refine PMet.of mf_X0_heightBelow (Nat.le_of_ble_eq_true rfl) ?_
  intro X h hr hml
  have hml : (xc X).maxLocals = 1 := hml
  have h : PXok X RX0 cX0_heightBelow 1 0 0 := h
  have hr : PXr X (some .long) "heightBelow" _ 0 0 := hr
  have hB0 := hB
  obtain ⟨f0, f1, f2, f3, f4, f5, f6, f7, f8, f9, f10, f11, g1, g2, g3, g9, g10, g11, g12, g13, g14, g15, g16⟩ := hB
  show PW X 0 [(0, .ref b)] [] sh I L R 0 0
  refine pw_ldc2 h d_X0_heightBelow_0 ck_RX0_82 ?_
  refine pw_aload_n h 0 d_X0_heightBelow_3 rfl ?_
  refine pw_getL 0 h d_X0_heightBelow_4 fd_RX0_30 (by assumption) rfl ?_
  refine pw_lmul h d_X0_heightBelow_7 ?_
  refine pw_aload_n h 0 d_X0_heightBelow_8 rfl ?_
  refine pw_getR (j := (b + 6)) 0 h d_X0_heightBelow_9 fd_RX0_48 (by assumption) rfl (by assumption) ?_
  refine pw_iconst (x := 0) h d_X0_heightBelow_12 (by decide) ?_
  refine pw_lald (j := 0) h d_X0_heightBelow_13 (by assumption) (px_ix_nI (j := 0) (by decide) (by decide)) ?_
  refine pw_lmul h d_X0_heightBelow_14 ?_
  refine pw_aload_n h 0 d_X0_heightBelow_15 rfl ?_
  refine pw_getL 0 h d_X0_heightBelow_16 fd_RX0_26 (by assumption) rfl ?_
  refine pw_lmul h d_X0_heightBelow_19 ?_
  refine pw_lret h hr d_X0_heightBelow_20 (by decide) (by decide) ?_
  exact ⟨rfl, rfl, rfl, rfl, rfl⟩

set_option maxHeartbeats 4000000 in
set_option maxRecDepth 100000 in
theorem c_X0_firstLevel {sh : Sh} {I : IM} {L : LM} {R : RM} {b : Nat} (hB : BeamF sh R b) {p0 : Nat} (hp0 : px_ix (I (b + 1) 0) 13 p0) : PMet M_X0_firstLevel [.ref b] sh I L R (pRet (some (.long (flL I L b p0))) sh I L R) := by
  refine PMet.of mf_X0_firstLevel (Nat.le_of_ble_eq_true rfl) ?_
  intro X h hr hml
  have hml : (xc X).maxLocals = 1 := hml
  have h : PXok X RX0 cX0_firstLevel 1 0 0 := h
  have hr : PXr X (some .long) "firstLevel" _ 0 0 := hr
  have hB0 := hB
  obtain ⟨f0, f1, f2, f3, f4, f5, f6, f7, f8, f9, f10, f11, g1, g2, g3, g9, g10, g11, g12, g13, g14, g15, g16⟩ := hB
  show PW X 0 [(0, .ref b)] [] sh I L R 0 0
  refine pw_aload_n h 0 d_X0_firstLevel_0 rfl ?_
  refine pw_getL 0 h d_X0_firstLevel_1 fd_RX0_26 (by assumption) rfl ?_
  refine pw_ldc2 h d_X0_firstLevel_4 ck_RX0_82 ?_
  refine pw_aload_n h 0 d_X0_firstLevel_7 rfl ?_
  refine pw_getL 0 h d_X0_firstLevel_8 fd_RX0_30 (by assumption) rfl ?_
  refine pw_lmul h d_X0_firstLevel_11 ?_
  refine pw_aload_n h 0 d_X0_firstLevel_12 rfl ?_
  refine pw_getR (j := (b + 2)) 0 h d_X0_firstLevel_13 fd_RX0_19 (by assumption) rfl (by assumption) ?_
  refine pw_iconst (x := 0) h d_X0_firstLevel_16 (by decide) ?_
  refine pw_iald (j := 0) h d_X0_firstLevel_17 (by assumption) (px_ix_nI (j := 0) (by decide) (by decide)) ?_
  refine pw_i2l h d_X0_firstLevel_18 ?_
  refine pw_lmul h d_X0_firstLevel_19 ?_
  refine pw_aload_n h 0 d_X0_firstLevel_20 rfl ?_
  refine pw_getR (j := (b + 5)) 0 h d_X0_firstLevel_21 fd_RX0_45 (by assumption) rfl (by assumption) ?_
  refine pw_aload_n h 0 d_X0_firstLevel_24 rfl ?_
  refine pw_getR (j := (b + 1)) 0 h d_X0_firstLevel_25 fd_RX0_15 (by assumption) rfl (by assumption) ?_
  refine pw_iconst (x := 0) h d_X0_firstLevel_28 (by decide) ?_
  refine pw_iald (j := 0) h d_X0_firstLevel_29 (by assumption) (px_ix_nI (j := 0) (by decide) (by decide)) ?_
  refine pw_lald h d_X0_firstLevel_30 (by assumption) hp0 ?_
  refine pw_ladd h d_X0_firstLevel_31 ?_
  refine pw_lmul h d_X0_firstLevel_32 ?_
  refine pw_lret h hr d_X0_firstLevel_33 (by decide) (by decide) ?_
  exact ⟨rfl, rfl, rfl, rfl, rfl⟩

set_option maxHeartbeats 4000000 in
set_option maxRecDepth 100000 in
theorem c_X0_secondLevel {sh : Sh} {I : IM} {L : LM} {R : RM} {b : Nat} (hB : BeamF sh R b) {p1 : Nat} (hp1 : px_ix (I (b + 1) 1) 13 p1) : PMet M_X0_secondLevel [.ref b] sh I L R (pRet (some (.long (slL I L b p1))) sh I L R) := by
  refine PMet.of mf_X0_secondLevel (Nat.le_of_ble_eq_true rfl) ?_
  intro X h hr hml
  have hml : (xc X).maxLocals = 1 := hml
  have h : PXok X RX0 cX0_secondLevel 1 0 0 := h
  have hr : PXr X (some .long) "secondLevel" _ 0 0 := hr
  have hB0 := hB
  obtain ⟨f0, f1, f2, f3, f4, f5, f6, f7, f8, f9, f10, f11, g1, g2, g3, g9, g10, g11, g12, g13, g14, g15, g16⟩ := hB
  show PW X 0 [(0, .ref b)] [] sh I L R 0 0
  refine pw_aload_n h 0 d_X0_secondLevel_0 rfl ?_
  refine pw_getL 0 h d_X0_secondLevel_1 fd_RX0_26 (by assumption) rfl ?_
  refine pw_ldc2 h d_X0_secondLevel_4 ck_RX0_82 ?_
  refine pw_aload_n h 0 d_X0_secondLevel_7 rfl ?_
  refine pw_getL 0 h d_X0_secondLevel_8 fd_RX0_30 (by assumption) rfl ?_
  refine pw_lmul h d_X0_secondLevel_11 ?_
  refine pw_aload_n h 0 d_X0_secondLevel_12 rfl ?_
  refine pw_getR (j := (b + 2)) 0 h d_X0_secondLevel_13 fd_RX0_19 (by assumption) rfl (by assumption) ?_
  refine pw_iconst (x := 1) h d_X0_secondLevel_16 (by decide) ?_
  refine pw_iald (j := 1) h d_X0_secondLevel_17 (by assumption) (px_ix_nI (j := 1) (by decide) (by decide)) ?_
  refine pw_i2l h d_X0_secondLevel_18 ?_
  refine pw_lmul h d_X0_secondLevel_19 ?_
  refine pw_aload_n h 0 d_X0_secondLevel_20 rfl ?_
  refine pw_getR (j := (b + 5)) 0 h d_X0_secondLevel_21 fd_RX0_45 (by assumption) rfl (by assumption) ?_
  refine pw_aload_n h 0 d_X0_secondLevel_24 rfl ?_
  refine pw_getR (j := (b + 1)) 0 h d_X0_secondLevel_25 fd_RX0_15 (by assumption) rfl (by assumption) ?_
  refine pw_iconst (x := 1) h d_X0_secondLevel_28 (by decide) ?_
  refine pw_iald (j := 1) h d_X0_secondLevel_29 (by assumption) (px_ix_nI (j := 1) (by decide) (by decide)) ?_
  refine pw_lald h d_X0_secondLevel_30 (by assumption) hp1 ?_
  refine pw_ladd h d_X0_secondLevel_31 ?_
  refine pw_lmul h d_X0_secondLevel_32 ?_
  refine pw_aload_n h 0 d_X0_secondLevel_33 rfl ?_
  refine pw_getR (j := (b + 3)) 0 h d_X0_secondLevel_34 fd_RX0_22 (by assumption) rfl (by assumption) ?_
  refine pw_iconst (x := 0) h d_X0_secondLevel_37 (by decide) ?_
  refine pw_lald (j := 0) h d_X0_secondLevel_38 (by assumption) (px_ix_nI (j := 0) (by decide) (by decide)) ?_
  refine pw_aload_n h 0 d_X0_secondLevel_39 rfl ?_
  refine pw_getR (j := (b + 6)) 0 h d_X0_secondLevel_40 fd_RX0_48 (by assumption) rfl (by assumption) ?_
  refine pw_iconst (x := 0) h d_X0_secondLevel_43 (by decide) ?_
  refine pw_lald (j := 0) h d_X0_secondLevel_44 (by assumption) (px_ix_nI (j := 0) (by decide) (by decide)) ?_
  refine pw_lmul h d_X0_secondLevel_45 ?_
  refine pw_aload_n h 0 d_X0_secondLevel_46 rfl ?_
  refine pw_getR (j := (b + 6)) 0 h d_X0_secondLevel_47 fd_RX0_48 (by assumption) rfl (by assumption) ?_
  refine pw_iconst (x := 0) h d_X0_secondLevel_50 (by decide) ?_
  refine pw_lald (j := 0) h d_X0_secondLevel_51 (by assumption) (px_ix_nI (j := 0) (by decide) (by decide)) ?_
  refine pw_lmul h d_X0_secondLevel_52 ?_
  refine pw_aload_n h 0 d_X0_secondLevel_53 rfl ?_
  refine pw_getR (j := (b + 6)) 0 h d_X0_secondLevel_54 fd_RX0_48 (by assumption) rfl (by assumption) ?_
  refine pw_iconst (x := 0) h d_X0_secondLevel_57 (by decide) ?_
  refine pw_lald (j := 0) h d_X0_secondLevel_58 (by assumption) (px_ix_nI (j := 0) (by decide) (by decide)) ?_
  refine pw_lmul h d_X0_secondLevel_59 ?_
  refine pw_lsub h d_X0_secondLevel_60 ?_
  refine pw_lret h hr d_X0_secondLevel_61 (by decide) (by decide) ?_
  exact ⟨rfl, rfl, rfl, rfl, rfl⟩

set_option maxHeartbeats 4000000 in
set_option maxRecDepth 100000 in
theorem c_X0_bulge {sh : Sh} {I : IM} {L : LM} {R : RM} {b : Nat} (hB : BeamF sh R b) {n : Nat} (hn : I b 0 = nI n) (h7 : n ≤ 7) (p : Int32) {p' : Nat} (hp : px_ix p 13 p') : PMet M_X0_bulge [.ref b, .int p] sh I L R (pRet (some (.long (bulL I L b n p p'))) sh I L R) := by
  refine PMet.of mf_X0_bulge (Nat.le_of_ble_eq_true rfl) ?_
  intro X h hr hml
  have hml : (xc X).maxLocals = 7 := hml
  have h : PXok X RX0 cX0_bulge 1 0 0 := h
  have hr : PXr X (some .long) "bulge" _ 0 0 := hr
  have hB0 := hB
  obtain ⟨f0, f1, f2, f3, f4, f5, f6, f7, f8, f9, f10, f11, g1, g2, g3, g9, g10, g11, g12, g13, g14, g15, g16⟩ := hB
  show PW X 0 [(0, .ref b), (1, .int p)] [] sh I L R 0 0
  refine pw_aload_n h 0 d_X0_bulge_0 rfl ?_
  refine pw_getL 0 h d_X0_bulge_1 fd_RX0_26 (by assumption) rfl ?_
  refine pw_lneg h d_X0_bulge_4 ?_
  refine pw_aload_n h 0 d_X0_bulge_5 rfl ?_
  refine pw_getR (j := (b + 5)) 0 h d_X0_bulge_6 fd_RX0_45 (by assumption) rfl (by assumption) ?_
  refine pw_iload_n h 1 d_X0_bulge_9 rfl ?_
  refine pw_lald h d_X0_bulge_10 (by assumption) (by assumption) ?_
  refine pw_lmul h d_X0_bulge_11 ?_
  refine pw_nmL (fun v2_12 e2_12 => ?_)
  refine pw_lstore_n (lv' := [(2, .long v2_12), (0, .ref b), (1, .int p)]) h d_X0_bulge_12 rfl _ hml (by decide) rfl ?_
  refine pw_iconst (x := 0) h d_X0_bulge_13 (by decide) ?_
  refine pw_nmI (fun v4_14 e4_14 => ?_)
  refine pw_istore (lv' := [(4, .int v4_14), (2, .long v2_12), (0, .ref b), (1, .int p)]) h d_X0_bulge_14 _ hml (by decide) rfl ?_
  have cut_16 : ∀ (N k : Nat) (a : Int64) (v : Int32), n < k + N → k ≤ n → v = nI k → a = bulF (-L b 4 * L (b + 5) p') (L (b + 3)) (dstL I b p) k → PW X 16 [(0, .ref b), (1, .int p), (2, .long a), (4, .int v)] [] sh I L R 0 0 := by
    intro N
    induction N with
    | zero => intros; omega
    | succ N ih =>
      intro i a v hN hi ev ea
      refine pw_iload h 3 d_X0_bulge_16 rfl ?_
      refine pw_aload_n h 0 d_X0_bulge_18 rfl ?_
      refine pw_getI 0 h d_X0_bulge_19 fd_RX0_9 (by assumption) rfl ?_
      refine pw_icmp_ge 69 h d_X0_bulge_22 (by decide) (fun c_22 => ?_) (fun c_22 => ?_)
      · skip
        have hge := k_ge ev (n := n) hn (by omega) (by omega) c_22
        have e : i = n := by omega
        subst e
        refine pw_lload_n h 2 d_X0_bulge_69 rfl ?_
        refine pw_lret h hr d_X0_bulge_70 (by decide) (by decide) ?_
        exact ⟨by rw [ea]; rfl, rfl, rfl, rfl, rfl⟩
      · skip
        have hlt := k_lt ev (n := n) hn (by omega) (by omega) c_22
        have hx := k_ix ev (Nat.lt_of_lt_of_le hlt (show n ≤ 7 by omega)) (by decide)
        refine pw_iload_n h 1 d_X0_bulge_25 rfl ?_
        refine pw_aload_n h 0 d_X0_bulge_26 rfl ?_
        refine pw_getR (j := (b + 1)) 0 h d_X0_bulge_27 fd_RX0_15 (by assumption) rfl (by assumption) ?_
        refine pw_iload h 3 d_X0_bulge_30 rfl ?_
        refine pw_iald h d_X0_bulge_32 (by assumption) (by assumption) ?_
        refine pw_isub h d_X0_bulge_33 ?_
        refine pw_i2l h d_X0_bulge_34 ?_
        refine pw_nmL (fun v5_35 e5_35 => ?_)
        refine pw_lstore (lv' := [(5, .long v5_35), (0, .ref b), (1, .int p), (2, .long a), (4, .int v)]) h d_X0_bulge_35 _ hml (by decide) rfl ?_
        refine pw_lload h 0 d_X0_bulge_37 rfl ?_
        refine pw_lconst (x := 0) h d_X0_bulge_39 (by decide) ?_
        refine pw_lcmp h d_X0_bulge_40 ?_
        refine pw_if_le 63 h d_X0_bulge_41 (by decide) (fun c_41 => ?_) (fun c_41 => ?_)
        · skip
          obtain ⟨v4_63, e4_63⟩ : ∃ z : Int32, z = v + (1) := ⟨_, rfl⟩
          refine pw_iinc (lv' := [(4, .int v4_63), (5, .long v5_35), (0, .ref b), (1, .int p), (2, .long a)]) v4_63 h d_X0_bulge_63 4 rfl e4_63.symm _ hml (by decide) rfl ?_
          refine pw_goto 16 h d_X0_bulge_66 (by decide) ?_
          refine PW.perm [2, 3, 4, 0] rfl ?_
          exact ih (i + 1) a v4_63 (by omega) (by omega) (k_up e4_63 ev) (by rw [ea]; exact (if_pos (by rw [e5_35] at c_41; simp only [lc_le] at c_41; exact c_41)).symm)
        · skip
          refine pw_lload_n h 3 d_X0_bulge_44 rfl ?_
          refine pw_aload_n h 1 d_X0_bulge_45 rfl ?_
          refine pw_getR (j := (b + 3)) 0 h d_X0_bulge_46 fd_RX0_22 (by assumption) rfl (by assumption) ?_
          refine pw_iload h 4 d_X0_bulge_49 rfl ?_
          refine pw_lald h d_X0_bulge_51 (by assumption) (by assumption) ?_
          refine pw_lload h 0 d_X0_bulge_52 rfl ?_
          refine pw_lmul h d_X0_bulge_54 ?_
          refine pw_lload h 0 d_X0_bulge_55 rfl ?_
          refine pw_lmul h d_X0_bulge_57 ?_
          refine pw_lload h 0 d_X0_bulge_58 rfl ?_
          refine pw_lmul h d_X0_bulge_60 ?_
          refine pw_ladd h d_X0_bulge_61 ?_
          refine pw_nmL (fun v2_62 e2_62 => ?_)
          refine pw_lstore_n (lv' := [(2, .long v2_62), (5, .long v5_35), (0, .ref b), (1, .int p), (4, .int v)]) h d_X0_bulge_62 rfl _ hml (by decide) rfl ?_
          obtain ⟨v4_63, e4_63⟩ : ∃ z : Int32, z = v + (1) := ⟨_, rfl⟩
          refine pw_iinc (lv' := [(4, .int v4_63), (2, .long v2_62), (5, .long v5_35), (0, .ref b), (1, .int p)]) v4_63 h d_X0_bulge_63 4 rfl e4_63.symm _ hml (by decide) rfl ?_
          refine pw_goto 16 h d_X0_bulge_66 (by decide) ?_
          refine PW.perm [3, 4, 1, 0] rfl ?_
          exact ih (i + 1) v2_62 v4_63 (by omega) (by omega) (k_up e4_63 ev) (by rw [e2_62, e5_35, ea]; exact (if_neg (by rw [e5_35] at c_41; simp only [lc_le] at c_41; exact c_41)).symm)
  refine PW.perm [2, 3, 1, 0] rfl ?_
  exact cut_16 (n + 1) 0 v2_12 v4_14 (by omega) (by omega) e4_14 e2_12

set_option maxHeartbeats 4000000 in
set_option maxRecDepth 100000 in
theorem c_X0_height {sh : Sh} {I : IM} {L : LM} {R : RM} {b : Nat} (hB : BeamF sh R b) {n : Nat} (hn : I b 0 = nI n) (h7 : n ≤ 7) (p : Int32) {p' p0 p1 : Nat} (hp : px_ix p 13 p') (hp0 : px_ix (I (b + 1) 0) 13 p0) (hp1 : px_ix (I (b + 1) 1) 13 p1) : PMet M_X0_height [.ref b, .int p] sh I L R (pRet (some (.long (heiL I L b n p p' p0 p1))) sh I L R) := by
  refine PMet.of mf_X0_height (Nat.le_of_ble_eq_true rfl) ?_
  intro X h hr hml
  have hml : (xc X).maxLocals = 2 := hml
  have h : PXok X RX0 cX0_height 2 0 0 := h
  have hr : PXr X (some .long) "height" _ 0 0 := hr
  have hB0 := hB
  obtain ⟨f0, f1, f2, f3, f4, f5, f6, f7, f8, f9, f10, f11, g1, g2, g3, g9, g10, g11, g12, g13, g14, g15, g16⟩ := hB
  show PW X 0 [(0, .ref b), (1, .int p)] [] sh I L R 0 0
  refine pw_aload_n h 0 d_X0_height_0 rfl ?_
  refine pw_callV (As := []) h d_X0_height_1 mf_X0_firstLevel mi_X0_firstLevel ml_RX0_99 ⟨by decide, by decide, by decide⟩ (by assumption) rfl rfl (Nat.le_of_ble_eq_true rfl) trivial (c_X0_firstLevel hB0 hp0) ?_
  refine PKk.ret ?_
  refine pw_aload_n h 0 d_X0_height_4 rfl ?_
  refine pw_getR (j := (b + 1)) 0 h d_X0_height_5 fd_RX0_15 (by assumption) rfl (by assumption) ?_
  refine pw_iconst (x := 1) h d_X0_height_8 (by decide) ?_
  refine pw_iald (j := 1) h d_X0_height_9 (by assumption) (px_ix_nI (j := 1) (by decide) (by decide)) ?_
  refine pw_iload_n h 1 d_X0_height_10 rfl ?_
  refine pw_isub h d_X0_height_11 ?_
  refine pw_i2l h d_X0_height_12 ?_
  refine pw_lmul h d_X0_height_13 ?_
  refine pw_aload_n h 0 d_X0_height_14 rfl ?_
  refine pw_callV (As := []) h d_X0_height_15 mf_X0_secondLevel mi_X0_secondLevel ml_RX0_102 ⟨by decide, by decide, by decide⟩ (by assumption) rfl rfl (Nat.le_of_ble_eq_true rfl) trivial (c_X0_secondLevel hB0 hp1) ?_
  refine PKk.ret ?_
  refine pw_iload_n h 1 d_X0_height_18 rfl ?_
  refine pw_aload_n h 0 d_X0_height_19 rfl ?_
  refine pw_getR (j := (b + 1)) 0 h d_X0_height_20 fd_RX0_15 (by assumption) rfl (by assumption) ?_
  refine pw_iconst (x := 0) h d_X0_height_23 (by decide) ?_
  refine pw_iald (j := 0) h d_X0_height_24 (by assumption) (px_ix_nI (j := 0) (by decide) (by decide)) ?_
  refine pw_isub h d_X0_height_25 ?_
  refine pw_i2l h d_X0_height_26 ?_
  refine pw_lmul h d_X0_height_27 ?_
  refine pw_ladd h d_X0_height_28 ?_
  refine pw_aload_n h 0 d_X0_height_29 rfl ?_
  refine pw_getR (j := (b + 6)) 0 h d_X0_height_30 fd_RX0_48 (by assumption) rfl (by assumption) ?_
  refine pw_iconst (x := 0) h d_X0_height_33 (by decide) ?_
  refine pw_lald (j := 0) h d_X0_height_34 (by assumption) (px_ix_nI (j := 0) (by decide) (by decide)) ?_
  refine pw_aload_n h 0 d_X0_height_35 rfl ?_
  refine pw_iload_n h 1 d_X0_height_36 rfl ?_
  refine pw_callV (As := [.int _]) h d_X0_height_37 mf_X0_bulge mi_X0_bulge ml_RX0_105 ⟨by decide, by decide, by decide⟩ (by assumption) rfl rfl (Nat.le_of_ble_eq_true rfl) trivial (c_X0_bulge hB0 hn h7 p hp) ?_
  refine PKk.ret ?_
  refine pw_lmul h d_X0_height_40 ?_
  refine pw_ladd h d_X0_height_41 ?_
  refine pw_lret h hr d_X0_height_42 (by decide) (by decide) ?_
  exact ⟨rfl, rfl, rfl, rfl, rfl⟩

set_option maxHeartbeats 4000000 in
set_option maxRecDepth 100000 in
theorem c_X0_slope {sh : Sh} {I : IM} {L : LM} {R : RM} {b : Nat} (hB : BeamF sh R b) {n : Nat} (hn : I b 0 = nI n) (h7 : n ≤ 7) (p : Int32) {p' p0 p1 : Nat} (hp : px_ix p 13 p') (hp0 : px_ix (I (b + 1) 0) 13 p0) (hp1 : px_ix (I (b + 1) 1) 13 p1) : PMet M_X0_slope [.ref b, .int p] sh I L R (pRet (some (.long (sleL I L b n p p' p0 p1))) sh I L R) := by
  refine PMet.of mf_X0_slope (Nat.le_of_ble_eq_true rfl) ?_
  intro X h hr hml
  have hml : (xc X).maxLocals = 7 := hml
  have h : PXok X RX0 cX0_slope 2 0 0 := h
  have hr : PXr X (some .long) "slope" _ 0 0 := hr
  have hB0 := hB
  obtain ⟨f0, f1, f2, f3, f4, f5, f6, f7, f8, f9, f10, f11, g1, g2, g3, g9, g10, g11, g12, g13, g14, g15, g16⟩ := hB
  show PW X 0 [(0, .ref b), (1, .int p)] [] sh I L R 0 0
  refine pw_aload_n h 0 d_X0_slope_0 rfl ?_
  refine pw_getL 0 h d_X0_slope_1 fd_RX0_26 (by assumption) rfl ?_
  refine pw_lneg h d_X0_slope_4 ?_
  refine pw_aload_n h 0 d_X0_slope_5 rfl ?_
  refine pw_getR (j := (b + 4)) 0 h d_X0_slope_6 fd_RX0_42 (by assumption) rfl (by assumption) ?_
  refine pw_iload_n h 1 d_X0_slope_9 rfl ?_
  refine pw_lald h d_X0_slope_10 (by assumption) (by assumption) ?_
  refine pw_lmul h d_X0_slope_11 ?_
  refine pw_nmL (fun v2_12 e2_12 => ?_)
  refine pw_lstore_n (lv' := [(2, .long v2_12), (0, .ref b), (1, .int p)]) h d_X0_slope_12 rfl _ hml (by decide) rfl ?_
  refine pw_iconst (x := 0) h d_X0_slope_13 (by decide) ?_
  refine pw_nmI (fun v4_14 e4_14 => ?_)
  refine pw_istore (lv' := [(4, .int v4_14), (2, .long v2_12), (0, .ref b), (1, .int p)]) h d_X0_slope_14 _ hml (by decide) rfl ?_
  have cut_16 : ∀ (N k : Nat) (a : Int64) (v : Int32), n < k + N → k ≤ n → v = nI k → a = sloF (-L b 4 * L (b + 4) p') (L (b + 3)) (dstL I b p) k → PW X 16 [(0, .ref b), (1, .int p), (2, .long a), (4, .int v)] [] sh I L R 0 0 := by
    intro N
    induction N with
    | zero => intros; omega
    | succ N ih =>
      intro i a v hN hi ev ea
      refine pw_iload h 3 d_X0_slope_16 rfl ?_
      refine pw_aload_n h 0 d_X0_slope_18 rfl ?_
      refine pw_getI 0 h d_X0_slope_19 fd_RX0_9 (by assumption) rfl ?_
      refine pw_icmp_ge 66 h d_X0_slope_22 (by decide) (fun c_22 => ?_) (fun c_22 => ?_)
      · skip
        have hge := k_ge ev (n := n) hn (by omega) (by omega) c_22
        have e : i = n := by omega
        subst e
        refine pw_aload_n h 0 d_X0_slope_66 rfl ?_
        refine pw_callV (As := []) h d_X0_slope_67 mf_X0_secondLevel mi_X0_secondLevel ml_RX0_102 ⟨by decide, by decide, by decide⟩ (by assumption) rfl rfl (Nat.le_of_ble_eq_true rfl) trivial (c_X0_secondLevel hB0 hp1) ?_
        refine PKk.ret ?_
        refine pw_aload_n h 0 d_X0_slope_70 rfl ?_
        refine pw_callV (As := []) h d_X0_slope_71 mf_X0_firstLevel mi_X0_firstLevel ml_RX0_99 ⟨by decide, by decide, by decide⟩ (by assumption) rfl rfl (Nat.le_of_ble_eq_true rfl) trivial (c_X0_firstLevel hB0 hp0) ?_
        refine PKk.ret ?_
        refine pw_lsub h d_X0_slope_74 ?_
        refine pw_ldc2 h d_X0_slope_75 ck_RX0_66 ?_
        refine pw_aload_n h 0 d_X0_slope_78 rfl ?_
        refine pw_getR (j := (b + 6)) 0 h d_X0_slope_79 fd_RX0_48 (by assumption) rfl (by assumption) ?_
        refine pw_iconst (x := 0) h d_X0_slope_82 (by decide) ?_
        refine pw_lald (j := 0) h d_X0_slope_83 (by assumption) (px_ix_nI (j := 0) (by decide) (by decide)) ?_
        refine pw_lmul h d_X0_slope_84 ?_
        refine pw_lload_n h 2 d_X0_slope_85 rfl ?_
        refine pw_lmul h d_X0_slope_86 ?_
        refine pw_ladd h d_X0_slope_87 ?_
        refine pw_lret h hr d_X0_slope_88 (by decide) (by decide) ?_
        exact ⟨by rw [ea]; rfl, rfl, rfl, rfl, rfl⟩
      · skip
        have hlt := k_lt ev (n := n) hn (by omega) (by omega) c_22
        have hx := k_ix ev (Nat.lt_of_lt_of_le hlt (show n ≤ 7 by omega)) (by decide)
        refine pw_iload_n h 1 d_X0_slope_25 rfl ?_
        refine pw_aload_n h 0 d_X0_slope_26 rfl ?_
        refine pw_getR (j := (b + 1)) 0 h d_X0_slope_27 fd_RX0_15 (by assumption) rfl (by assumption) ?_
        refine pw_iload h 3 d_X0_slope_30 rfl ?_
        refine pw_iald h d_X0_slope_32 (by assumption) (by assumption) ?_
        refine pw_isub h d_X0_slope_33 ?_
        refine pw_i2l h d_X0_slope_34 ?_
        refine pw_nmL (fun v5_35 e5_35 => ?_)
        refine pw_lstore (lv' := [(5, .long v5_35), (0, .ref b), (1, .int p), (2, .long a), (4, .int v)]) h d_X0_slope_35 _ hml (by decide) rfl ?_
        refine pw_lload h 0 d_X0_slope_37 rfl ?_
        refine pw_lconst (x := 0) h d_X0_slope_39 (by decide) ?_
        refine pw_lcmp h d_X0_slope_40 ?_
        refine pw_if_le 60 h d_X0_slope_41 (by decide) (fun c_41 => ?_) (fun c_41 => ?_)
        · skip
          obtain ⟨v4_60, e4_60⟩ : ∃ z : Int32, z = v + (1) := ⟨_, rfl⟩
          refine pw_iinc (lv' := [(4, .int v4_60), (5, .long v5_35), (0, .ref b), (1, .int p), (2, .long a)]) v4_60 h d_X0_slope_60 4 rfl e4_60.symm _ hml (by decide) rfl ?_
          refine pw_goto 16 h d_X0_slope_63 (by decide) ?_
          refine PW.perm [2, 3, 4, 0] rfl ?_
          exact ih (i + 1) a v4_60 (by omega) (by omega) (k_up e4_60 ev) (by rw [ea]; exact (if_pos (by rw [e5_35] at c_41; simp only [lc_le] at c_41; exact c_41)).symm)
        · skip
          refine pw_lload_n h 3 d_X0_slope_44 rfl ?_
          refine pw_aload_n h 1 d_X0_slope_45 rfl ?_
          refine pw_getR (j := (b + 3)) 0 h d_X0_slope_46 fd_RX0_22 (by assumption) rfl (by assumption) ?_
          refine pw_iload h 4 d_X0_slope_49 rfl ?_
          refine pw_lald h d_X0_slope_51 (by assumption) (by assumption) ?_
          refine pw_lload h 0 d_X0_slope_52 rfl ?_
          refine pw_lmul h d_X0_slope_54 ?_
          refine pw_lload h 0 d_X0_slope_55 rfl ?_
          refine pw_lmul h d_X0_slope_57 ?_
          refine pw_ladd h d_X0_slope_58 ?_
          refine pw_nmL (fun v2_59 e2_59 => ?_)
          refine pw_lstore_n (lv' := [(2, .long v2_59), (5, .long v5_35), (0, .ref b), (1, .int p), (4, .int v)]) h d_X0_slope_59 rfl _ hml (by decide) rfl ?_
          obtain ⟨v4_60, e4_60⟩ : ∃ z : Int32, z = v + (1) := ⟨_, rfl⟩
          refine pw_iinc (lv' := [(4, .int v4_60), (2, .long v2_59), (5, .long v5_35), (0, .ref b), (1, .int p)]) v4_60 h d_X0_slope_60 4 rfl e4_60.symm _ hml (by decide) rfl ?_
          refine pw_goto 16 h d_X0_slope_63 (by decide) ?_
          refine PW.perm [3, 4, 1, 0] rfl ?_
          exact ih (i + 1) v2_59 v4_60 (by omega) (by omega) (k_up e4_60 ev) (by rw [e2_59, e5_35, ea]; exact (if_neg (by rw [e5_35] at c_41; simp only [lc_le] at c_41; exact c_41)).symm)
  refine PW.perm [2, 3, 1, 0] rfl ?_
  exact cut_16 (n + 1) 0 v2_12 v4_14 (by omega) (by omega) e4_14 e2_12

set_option maxHeartbeats 4000000 in
set_option maxRecDepth 100000 in
theorem c_X0_add {sh : Sh} {I : IM} {L : LM} {R : RM} {b : Nat} (hB : BeamF sh R b) {n : Nat} (hn : I b 0 = nI n) (h7 : n ≤ 7) (p v : Int32) : PMet M_X0_add [.ref b, .int p, .int v] sh I L R (pRet none sh (if n < 7 then u2 (u2 (u2 I (b + 1) n p) (b + 2) n v) b 0 (nI (n + 1)) else I) L R) := by
  refine PMet.of mf_X0_add (Nat.le_of_ble_eq_true rfl) ?_
  intro X h hr hml
  have hml : (xc X).maxLocals = 3 := hml
  have h : PXok X RX0 cX0_add 1 0 0 := h
  have hr : PXr X none "add" _ 0 0 := hr
  have hB0 := hB
  obtain ⟨f0, f1, f2, f3, f4, f5, f6, f7, f8, f9, f10, f11, g1, g2, g3, g9, g10, g11, g12, g13, g14, g15, g16⟩ := hB
  show PW X 0 [(0, .ref b), (1, .int p), (2, .int v)] [] sh I L R 0 0
  refine pw_aload_n h 0 d_X0_add_0 rfl ?_
  refine pw_getI 0 h d_X0_add_1 fd_RX0_9 (by assumption) rfl ?_
  refine pw_bipush (x := 7) h d_X0_add_4 (by decide) ?_
  refine pw_icmp_ge 39 h d_X0_add_6 (by decide) (fun c_6 => ?_) (fun c_6 => ?_)
  · skip
    have hge : 7 ≤ n := k_ge hn (n := 7) rfl (by omega) (by omega) c_6
    refine pw_vret h hr d_X0_add_39 (by decide) (by decide) ?_
    first | exact ⟨rfl, rfl, by rw [if_neg (by omega)], rfl, rfl⟩ | exact ⟨rfl, rfl, by rw [if_pos hlt, u2_n1 (show b ≠ b + 2 by omega), u2_n1 (show b ≠ b + 1 by omega), hn, nI_1], rfl, rfl⟩
  · skip
    have hlt : n < 7 := k_lt hn (n := 7) rfl (by omega) (by omega) c_6
    have hx : px_ix (I b 0) 7 n := k_ix hn hlt (by decide)
    refine pw_aload_n h 0 d_X0_add_9 rfl ?_
    refine pw_getR (j := (b + 1)) 0 h d_X0_add_10 fd_RX0_15 (by assumption) rfl (by assumption) ?_
    refine pw_aload_n h 0 d_X0_add_13 rfl ?_
    refine pw_getI 0 h d_X0_add_14 fd_RX0_9 (by assumption) rfl ?_
    refine pw_iload_n h 1 d_X0_add_17 rfl ?_
    refine pw_iast h d_X0_add_18 (by assumption) (by assumption) ?_
    refine pw_aload_n h 0 d_X0_add_19 rfl ?_
    refine pw_getR (j := (b + 2)) 0 h d_X0_add_20 fd_RX0_19 (by assumption) rfl (by assumption) ?_
    refine pw_aload_n h 0 d_X0_add_23 rfl ?_
    refine pw_getI 0 h d_X0_add_24 fd_RX0_9 (by assumption) rfl ?_
    rw [u2_n1 (by omega)]
    refine pw_iload_n h 2 d_X0_add_27 rfl ?_
    refine pw_iast h d_X0_add_28 (by assumption) (by assumption) ?_
    refine pw_aload_n h 0 d_X0_add_29 rfl ?_
    refine pw_dupR h d_X0_add_30 ?_
    refine pw_getI 0 h d_X0_add_31 fd_RX0_9 (by assumption) rfl ?_
    refine pw_iconst (x := 1) h d_X0_add_34 (by decide) ?_
    refine pw_iadd h d_X0_add_35 ?_
    refine pw_putI 0 h d_X0_add_36 fd_RX0_9 (by assumption) rfl rfl rfl rfl ?_
    refine pw_vret h hr d_X0_add_39 (by decide) (by decide) ?_
    first | exact ⟨rfl, rfl, by rw [if_neg (by omega)], rfl, rfl⟩ | exact ⟨rfl, rfl, by rw [if_pos hlt, u2_n1 (show b ≠ b + 2 by omega), u2_n1 (show b ≠ b + 1 by omega), hn, nI_1], rfl, rfl⟩
