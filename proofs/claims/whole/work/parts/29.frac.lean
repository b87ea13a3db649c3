set_option maxHeartbeats 4000000 in
set_option maxRecDepth 100000 in
theorem c_X7_commonDivisor {a z : Int64} {sh : Sh} {I : IM} {L : LM} {R : RM} : PMet M_X7_commonDivisor [.long a, .long z] sh I L R (pRet (some (.long (euc 100 (absL a) (absL z)))) sh I L R) := by
  refine PMet.of mf_X7_commonDivisor (Nat.le_of_ble_eq_true rfl) ?_
  intro X h hr hml
  have hml : (xc X).maxLocals = 11 := hml
  have h : PXok X RX7 cX7_commonDivisor 1 0 0 := h
  have hr : PXr X (some .long) "commonDivisor" _ 0 0 := hr
  show PW X 0 [(0, .long a), (2, .long z)] [] sh I L R 0 0
  refine pw_lload_n h 0 d_X7_commonDivisor_0 rfl ?_
  refine pw_mabsl h d_X7_commonDivisor_1 ml_RX7_318 (by decide) (Nat.le_of_ble_eq_true rfl) (by decide) (by decide) ?_
  refine pw_nmL (fun v4_4 e4_4 => ?_)
  refine pw_lstore (lv' := [(4, .long v4_4), (0, .long a), (2, .long z)]) h d_X7_commonDivisor_4 _ hml (by decide) rfl ?_
  have ex0 : v4_4 = absL a := e4_4
  refine pw_lload_n h 2 d_X7_commonDivisor_6 rfl ?_
  refine pw_mabsl h d_X7_commonDivisor_7 ml_RX7_318 (by decide) (Nat.le_of_ble_eq_true rfl) (by decide) (by decide) ?_
  refine pw_nmL (fun v6_10 e6_10 => ?_)
  refine pw_lstore (lv' := [(6, .long v6_10), (4, .long v4_4), (0, .long a), (2, .long z)]) h d_X7_commonDivisor_10 _ hml (by decide) rfl ?_
  have ey0 : v6_10 = absL z := e6_10
  refine pw_iconst (x := 0) h d_X7_commonDivisor_12 (by decide) ?_
  refine pw_nmI (fun v8_13 e8_13 => ?_)
  refine pw_istore (lv' := [(8, .int v8_13), (6, .long v6_10), (4, .long v4_4), (0, .long a), (2, .long z)]) h d_X7_commonDivisor_13 _ hml (by decide) rfl ?_
  have cut_15 : ∀ (N i : Nat) (x y : Int64) (v : Int32), 100 < i + N → i ≤ 100 → v = nI i → euc (100 - i) x y = euc 100 (absL a) (absL z) → PW X 15 [(0, .long a), (2, .long z), (4, .long x), (6, .long y), (8, .int v)] [] sh I L R 0 0 := by
    intro N
    induction N with
    | zero => intros; omega
    | succ N ih =>
      intro i x y v hN hi ev hq
      refine pw_iload h 4 d_X7_commonDivisor_15 rfl ?_
      refine pw_bipush (x := 100) h d_X7_commonDivisor_17 (by decide) ?_
      refine pw_icmp_ge 50 h d_X7_commonDivisor_19 (by decide) (fun c_19 => ?_) (fun c_19 => ?_)
      · skip
        have hge := k_ge ev (n := 100) rfl (by omega) (by omega) c_19
        have e : i = 100 := by omega
        subst e
        refine pw_lload h 2 d_X7_commonDivisor_50 rfl ?_
        refine pw_lret h hr d_X7_commonDivisor_52 (by decide) (by decide) ?_
        first | (rw [euc_0 hy0] at hq; exact ⟨by rw [← hq], rfl, rfl, rfl, rfl⟩) | exact ⟨by rw [← hq]; rfl, rfl, rfl, rfl, rfl⟩
      · skip
        have hlt := k_lt ev (n := 100) rfl (by omega) (by omega) c_19
        refine pw_lload h 3 d_X7_commonDivisor_22 rfl ?_
        refine pw_lconst (x := 0) h d_X7_commonDivisor_24 (by decide) ?_
        refine pw_lcmp h d_X7_commonDivisor_25 ?_
        refine pw_if_eq 50 h d_X7_commonDivisor_26 (by decide) (fun c_26 => ?_) (fun c_26 => ?_)
        · skip
          have hy0 : y = 0 := Int64.toInt_inj.mp (lc_eq.mp c_26)
          refine pw_lload h 2 d_X7_commonDivisor_50 rfl ?_
          refine pw_lret h hr d_X7_commonDivisor_52 (by decide) (by decide) ?_
          first | (rw [euc_0 hy0] at hq; exact ⟨by rw [← hq], rfl, rfl, rfl, rfl⟩) | exact ⟨by rw [← hq]; rfl, rfl, rfl, rfl, rfl⟩
        · skip
          have hy0 : ¬ y = 0 := fun q => c_26 (lc_eq.mpr (by rw [q]))
          refine pw_lload h 2 d_X7_commonDivisor_29 rfl ?_
          refine pw_lload h 3 d_X7_commonDivisor_31 rfl ?_
          refine pw_lrem h d_X7_commonDivisor_33 hy0 ?_
          refine pw_nmL (fun v9_34 e9_34 => ?_)
          refine pw_lstore (lv' := [(9, .long v9_34), (0, .long a), (2, .long z), (4, .long x), (6, .long y), (8, .int v)]) h d_X7_commonDivisor_34 _ hml (by decide) rfl ?_
          refine pw_lload h 4 d_X7_commonDivisor_36 rfl ?_
          refine pw_nmL (fun v4_38 e4_38 => ?_)
          refine pw_lstore (lv' := [(4, .long v4_38), (9, .long v9_34), (0, .long a), (2, .long z), (6, .long y), (8, .int v)]) h d_X7_commonDivisor_38 _ hml (by decide) rfl ?_
          refine pw_lload h 1 d_X7_commonDivisor_40 rfl ?_
          refine pw_nmL (fun v6_42 e6_42 => ?_)
          refine pw_lstore (lv' := [(6, .long v6_42), (4, .long v4_38), (9, .long v9_34), (0, .long a), (2, .long z), (8, .int v)]) h d_X7_commonDivisor_42 _ hml (by decide) rfl ?_
          obtain ⟨v8_44, e8_44⟩ : ∃ z : Int32, z = v + (1) := ⟨_, rfl⟩
          refine pw_iinc (lv' := [(8, .int v8_44), (6, .long v6_42), (4, .long v4_38), (9, .long v9_34), (0, .long a), (2, .long z)]) v8_44 h d_X7_commonDivisor_44 5 rfl e8_44.symm _ hml (by decide) rfl ?_
          refine pw_goto 15 h d_X7_commonDivisor_47 (by decide) ?_
          refine PW.perm [4, 5, 2, 1, 0] rfl ?_
          exact ih (i + 1) v4_38 v6_42 v8_44 (by omega) (by omega) (k_up e8_44 ev) (by rw [← hq, show 100 - i = 100 - (i + 1) + 1 by omega]; show _ = (if y = 0 then x else _); rw [if_neg hy0]; first | rw [e4_38, e6_42, e9_34] | rfl)
  refine PW.perm [3, 4, 2, 1, 0] rfl ?_
  exact cut_15 101 0 v4_4 v6_10 v8_13 (by omega) (by omega) e8_13 (by rw [ex0, ey0])

set_option maxHeartbeats 4000000 in
set_option maxRecDepth 100000 in
theorem c_X1_become {sh : Sh} {I : IM} {L : LM} {R : RM} {b : Nat} (f0 : sh[b]? = some (.inl 1)) (x z : Int64) : PMet M_X1_become [.ref b, .long x, .long z] sh I L R (pRet none sh I (u2 (u2 L b 0 (cutL x (euc 100 (absL x) (absL z)))) b 1 (cutL z (euc 100 (absL x) (absL z)))) R) := by
  refine PMet.of mf_X1_become (Nat.le_of_ble_eq_true rfl) ?_
  intro X h hr hml
  have hml : (xc X).maxLocals = 7 := hml
  have h : PXok X RX1 cX1_become 2 0 0 := h
  have hr : PXr X none "become" _ 0 0 := hr
  show PW X 0 [(0, .ref b), (1, .long x), (3, .long z)] [] sh I L R 0 0
  refine pw_lload_n h 1 d_X1_become_0 rfl ?_
  refine pw_lload_n h 2 d_X1_become_1 rfl ?_
  refine pw_callSN (As := [.long _, .long _]) h d_X1_become_2 mf_X7_commonDivisor st_yX7_commonDivisor nw_RX1_16 ⟨by decide, by decide, by decide⟩ rfl rfl (Nat.le_of_ble_eq_true rfl) c_X7_commonDivisor ?_
  refine PKk.ret ?_
  refine pw_nmL (fun v5_5 e5_5 => ?_)
  refine pw_lstore (lv' := [(5, .long v5_5), (0, .ref b), (1, .long x), (3, .long z)]) h d_X1_become_5 _ hml (by decide) rfl ?_
  refine pw_aload_n h 1 d_X1_become_7 rfl ?_
  refine pw_lload_n h 2 d_X1_become_8 rfl ?_
  refine pw_lload h 0 d_X1_become_9 rfl ?_
  refine pw_callSN (As := [.long _, .long _]) h d_X1_become_11 mf_X7_cut st_yX7_cut nw_RX1_22 ⟨by decide, by decide, by decide⟩ rfl rfl (Nat.le_of_ble_eq_true rfl) c_X7_cut ?_
  refine PKk.ret ?_
  refine pw_putL 1 h d_X1_become_14 fd_RX1_7 (by assumption) rfl rfl rfl rfl ?_
  refine pw_aload_n h 1 d_X1_become_17 rfl ?_
  refine pw_lload_n h 3 d_X1_become_18 rfl ?_
  refine pw_lload h 0 d_X1_become_19 rfl ?_
  refine pw_callSN (As := [.long _, .long _]) h d_X1_become_21 mf_X7_cut st_yX7_cut nw_RX1_22 ⟨by decide, by decide, by decide⟩ rfl rfl (Nat.le_of_ble_eq_true rfl) c_X7_cut ?_
  refine PKk.ret ?_
  refine pw_putL 1 h d_X1_become_24 fd_RX1_13 (by assumption) rfl rfl rfl rfl ?_
  refine pw_vret h hr d_X1_become_27 (by decide) (by decide) ?_
  exact ⟨rfl, rfl, rfl, by rw [e5_5]; rfl, rfl⟩

set_option maxHeartbeats 4000000 in
set_option maxRecDepth 100000 in
theorem c_X8_diagonal {sh : Sh} {I : IM} {L : LM} {R : RM} {m : Nat} (hM : ModF sh R m) {i : Nat} {v : Int32} (ev : v = nI i) (h0 : 0 < i) (hi : i + 1 < 7) : PMet M_X8_diagonal [.ref m, .int v] sh I L R (pRet (some (.long (2 * (I (m + 11) (i + 1) - I (m + 11) (i - 1)).toInt64))) sh I L R) := by
  refine PMet.of mf_X8_diagonal (Nat.le_of_ble_eq_true rfl) ?_
  intro X h hr hml
  have hml : (xc X).maxLocals = 2 := hml
  have h : PXok X RX8 cX8_diagonal 1 0 0 := h
  have hr : PXr X (some .long) "diagonal" _ 0 0 := hr
  have hM0 := hM
  obtain ⟨f0, f1, f2, f3, f4, f5, f6, f7, f8, f9, f10, f11, f12, f13, f14, f15, f16, f17, f18, f19, f20, f21, f22, f23, f24, f25, f26, f27, g1, g2, g3, g4, g5, g6, g7, g8, g9, g10, g11, g12, g13, g14, g15, g16, g17, g18, g19, g20, g21, g22, g23, g24, g25, g26, g27⟩ := hM
  have hx1 := k_ix1 ev hi (by decide)
  have hx0 := k_ixm ev h0 (show i - 1 < 7 by omega) (by decide)
  show PW X 0 [(0, .ref m), (1, .int v)] [] sh I L R 0 0
  refine pw_ldc2 h d_X8_diagonal_0 ck_RX8_209 ?_
  refine pw_aload_n h 0 d_X8_diagonal_3 rfl ?_
  refine pw_getR (j := (m + 11)) 8 h d_X8_diagonal_4 fd_RX8_48 (by assumption) rfl (by assumption) ?_
  refine pw_iload_n h 1 d_X8_diagonal_7 rfl ?_
  refine pw_iconst (x := 1) h d_X8_diagonal_8 (by decide) ?_
  refine pw_iadd h d_X8_diagonal_9 ?_
  refine pw_iald h d_X8_diagonal_10 (by assumption) (by assumption) ?_
  refine pw_aload_n h 0 d_X8_diagonal_11 rfl ?_
  refine pw_getR (j := (m + 11)) 8 h d_X8_diagonal_12 fd_RX8_48 (by assumption) rfl (by assumption) ?_
  refine pw_iload_n h 1 d_X8_diagonal_15 rfl ?_
  refine pw_iconst (x := 1) h d_X8_diagonal_16 (by decide) ?_
  refine pw_isub h d_X8_diagonal_17 ?_
  refine pw_iald h d_X8_diagonal_18 (by assumption) (by assumption) ?_
  refine pw_isub h d_X8_diagonal_19 ?_
  refine pw_i2l h d_X8_diagonal_20 ?_
  refine pw_lmul h d_X8_diagonal_21 ?_
  refine pw_lret h hr d_X8_diagonal_22 (by decide) (by decide) ?_
  exact ⟨rfl, rfl, rfl, rfl, rfl⟩

set_option maxHeartbeats 4000000 in
set_option maxRecDepth 100000 in
theorem c_X8_side {sh : Sh} {I : IM} {L : LM} {R : RM} {m : Nat} (hM : ModF sh R m) {i : Nat} {v : Int32} (ev : v = nI i) (hi : i + 1 < 7) : PMet M_X8_side [.ref m, .int v] sh I L R (pRet (some (.long (I (m + 11) (i + 1) - I (m + 11) i).toInt64)) sh I L R) := by
  refine PMet.of mf_X8_side (Nat.le_of_ble_eq_true rfl) ?_
  intro X h hr hml
  have hml : (xc X).maxLocals = 2 := hml
  have h : PXok X RX8 cX8_side 1 0 0 := h
  have hr : PXr X (some .long) "side" _ 0 0 := hr
  have hM0 := hM
  obtain ⟨f0, f1, f2, f3, f4, f5, f6, f7, f8, f9, f10, f11, f12, f13, f14, f15, f16, f17, f18, f19, f20, f21, f22, f23, f24, f25, f26, f27, g1, g2, g3, g4, g5, g6, g7, g8, g9, g10, g11, g12, g13, g14, g15, g16, g17, g18, g19, g20, g21, g22, g23, g24, g25, g26, g27⟩ := hM
  have hx1 := k_ix1 ev hi (by decide)
  have hx0 := k_ix ev (show i < 7 by omega) (by decide)
  show PW X 0 [(0, .ref m), (1, .int v)] [] sh I L R 0 0
  refine pw_aload_n h 0 d_X8_side_0 rfl ?_
  refine pw_getR (j := (m + 11)) 8 h d_X8_side_1 fd_RX8_48 (by assumption) rfl (by assumption) ?_
  refine pw_iload_n h 1 d_X8_side_4 rfl ?_
  refine pw_iconst (x := 1) h d_X8_side_5 (by decide) ?_
  refine pw_iadd h d_X8_side_6 ?_
  refine pw_iald h d_X8_side_7 (by assumption) (by assumption) ?_
  refine pw_aload_n h 0 d_X8_side_8 rfl ?_
  refine pw_getR (j := (m + 11)) 8 h d_X8_side_9 fd_RX8_48 (by assumption) rfl (by assumption) ?_
  refine pw_iload_n h 1 d_X8_side_12 rfl ?_
  refine pw_iald h d_X8_side_13 (by assumption) (by assumption) ?_
  refine pw_isub h d_X8_side_14 ?_
  refine pw_i2l h d_X8_side_15 ?_
  refine pw_lret h hr d_X8_side_16 (by decide) (by decide) ?_
  exact ⟨rfl, rfl, rfl, rfl, rfl⟩

set_option maxHeartbeats 4000000 in
set_option maxRecDepth 100000 in
theorem c_X8_part {sh : Sh} {I : IM} {L : LM} {R : RM} {m : Nat} (hM : ModF sh R m) (w : Int32) : PMet M_X8_part [.ref m, .int w] sh I L R (pRet (some (.long (if w = 0 then L m 17 else L m 18))) sh I L R) := by
  refine PMet.of mf_X8_part (Nat.le_of_ble_eq_true rfl) ?_
  intro X h hr hml
  have hml : (xc X).maxLocals = 2 := hml
  have h : PXok X RX8 cX8_part 1 0 0 := h
  have hr : PXr X (some .long) "part" _ 0 0 := hr
  have hM0 := hM
  obtain ⟨f0, f1, f2, f3, f4, f5, f6, f7, f8, f9, f10, f11, f12, f13, f14, f15, f16, f17, f18, f19, f20, f21, f22, f23, f24, f25, f26, f27, g1, g2, g3, g4, g5, g6, g7, g8, g9, g10, g11, g12, g13, g14, g15, g16, g17, g18, g19, g20, g21, g22, g23, g24, g25, g26, g27⟩ := hM
  show PW X 0 [(0, .ref m), (1, .int w)] [] sh I L R 0 0
  refine pw_iload_n h 1 d_X8_part_0 rfl ?_
  refine pw_if_ne 11 h d_X8_part_1 (by decide) (fun c_1 => ?_) (fun c_1 => ?_)
  · skip
    refine pw_aload_n h 0 d_X8_part_11 rfl ?_
    refine pw_getL 8 h d_X8_part_12 fd_RX8_44 (by assumption) rfl ?_
    refine pw_lret h hr d_X8_part_15 (by decide) (by decide) ?_
    first | exact ⟨by rw [if_neg c_1], rfl, rfl, rfl, rfl⟩ | exact ⟨by rw [if_pos c_1], rfl, rfl, rfl, rfl⟩
  · skip
    refine pw_aload_n h 0 d_X8_part_4 rfl ?_
    refine pw_getL 8 h d_X8_part_5 fd_RX8_202 (by assumption) rfl ?_
    refine pw_goto 15 h d_X8_part_8 (by decide) ?_
    refine pw_lret h hr d_X8_part_15 (by decide) (by decide) ?_
    first | exact ⟨by rw [if_neg c_1], rfl, rfl, rfl, rfl⟩ | exact ⟨by rw [if_pos c_1], rfl, rfl, rfl, rfl⟩
