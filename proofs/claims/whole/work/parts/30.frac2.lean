set_option maxHeartbeats 4000000 in
set_option maxRecDepth 100000 in
theorem c_X8_common {a z : Int64} {sh : Sh} {I : IM} {L : LM} {R : RM} : PMet M_X8_common [.long a, .long z] sh I L R (pRet (some (.long (gcdL a z))) sh I L R) := by
  refine PMet.of mf_X8_common (Nat.le_of_ble_eq_true rfl) ?_
  intro X h hr hml
  have hml : (xc X).maxLocals = 10 := hml
  have h : PXok X RX8 cX8_common 1 0 0 := h
  have hr : PXr X (some .long) "common" _ 0 0 := hr
  show PW X 0 [(0, .long a), (2, .long z)] [] sh I L R 0 0
  refine pw_lload_n h 0 d_X8_common_0 rfl ?_
  refine pw_lconst (x := 0) h d_X8_common_1 (by decide) ?_
  refine pw_lcmp h d_X8_common_2 ?_
  have cut_28 : ∀ (N : Nat) (x y : Int64), y.toInt.natAbs < N → euc y.toInt.natAbs x y = gcdL a z → PW X 28 [(0, .long a), (2, .long z), (4, .long x), (6, .long y)] [] sh I L R 0 0 := by
    intro N
    induction N with
    | zero => intros; omega
    | succ N ih =>
      intro x y hN hq
      refine pw_lload h 3 d_X8_common_28 rfl ?_
      refine pw_lconst (x := 0) h d_X8_common_30 (by decide) ?_
      refine pw_lcmp h d_X8_common_31 ?_
      refine pw_if_eq 53 h d_X8_common_32 (by decide) (fun c_32 => ?_) (fun c_32 => ?_)
      · skip
        have hy0 : y = 0 := Int64.toInt_inj.mp (lc_eq.mp c_32)
        refine pw_lload h 2 d_X8_common_53 rfl ?_
        refine pw_lret h hr d_X8_common_55 (by decide) (by decide) ?_
        rw [euc_0 hy0] at hq
        exact ⟨by rw [← hq], rfl, rfl, rfl, rfl⟩
      · skip
        have hy0 : ¬ y = 0 := fun q => c_32 (lc_eq.mpr (by rw [q]))
        refine pw_lload h 2 d_X8_common_35 rfl ?_
        refine pw_lload h 3 d_X8_common_37 rfl ?_
        refine pw_lrem h d_X8_common_39 hy0 ?_
        refine pw_nmL (fun v8_40 e8_40 => ?_)
        refine pw_lstore (lv' := [(8, .long v8_40), (0, .long a), (2, .long z), (4, .long x), (6, .long y)]) h d_X8_common_40 _ hml (by decide) rfl ?_
        refine pw_lload h 4 d_X8_common_42 rfl ?_
        refine pw_nmL (fun v4_44 e4_44 => ?_)
        refine pw_lstore (lv' := [(4, .long v4_44), (8, .long v8_40), (0, .long a), (2, .long z), (6, .long y)]) h d_X8_common_44 _ hml (by decide) rfl ?_
        refine pw_lload h 1 d_X8_common_46 rfl ?_
        refine pw_nmL (fun v6_48 e6_48 => ?_)
        refine pw_lstore (lv' := [(6, .long v6_48), (4, .long v4_44), (8, .long v8_40), (0, .long a), (2, .long z)]) h d_X8_common_48 _ hml (by decide) rfl ?_
        refine pw_goto 28 h d_X8_common_50 (by decide) ?_
        refine PW.perm [3, 4, 1, 0] rfl ?_
        exact ih v4_44 v6_48 (by rw [e6_48, e8_40]; have := remL_lt x y hy0; omega) (by rw [← hq, euc_step hy0, e4_44, e6_48, e8_40])
  refine pw_if_ge 11 h d_X8_common_3 (by decide) (fun c_3 => ?_) (fun c_3 => ?_)
  · skip
    refine pw_lload_n h 0 d_X8_common_11 rfl ?_
    refine pw_nmL (fun v4_12 e4_12 => ?_)
    refine pw_lstore (lv' := [(4, .long v4_12), (0, .long a), (2, .long z)]) h d_X8_common_12 _ hml (by decide) rfl ?_
    have ex0 : v4_12 = absL a := by rw [e4_12]; first | exact (absL_ge (lc_ge.mp c_3)).symm | exact (absL_lt (Int.not_le.mp (fun q => c_3 (lc_ge.mpr q)))).symm
    refine pw_lload_n h 2 d_X8_common_14 rfl ?_
    refine pw_lconst (x := 0) h d_X8_common_15 (by decide) ?_
    refine pw_lcmp h d_X8_common_16 ?_
    refine pw_if_ge 25 h d_X8_common_17 (by decide) (fun c_17 => ?_) (fun c_17 => ?_)
    · skip
      refine pw_lload_n h 2 d_X8_common_25 rfl ?_
      refine pw_nmL (fun v6_26 e6_26 => ?_)
      refine pw_lstore (lv' := [(6, .long v6_26), (4, .long v4_12), (0, .long a), (2, .long z)]) h d_X8_common_26 _ hml (by decide) rfl ?_
      have ey0 : v6_26 = absL z := by rw [e6_26]; first | exact (absL_ge (lc_ge.mp c_17)).symm | exact (absL_lt (Int.not_le.mp (fun q => c_17 (lc_ge.mpr q)))).symm
      refine PW.perm [2, 3, 1, 0] rfl ?_
      exact cut_28 (v6_26.toInt.natAbs + 1) v4_12 v6_26 (by omega) (by rw [ex0, ey0]; rfl)
    · skip
      refine pw_lload_n h 2 d_X8_common_20 rfl ?_
      refine pw_lneg h d_X8_common_21 ?_
      refine pw_goto 26 h d_X8_common_22 (by decide) ?_
      refine pw_nmL (fun v6_26 e6_26 => ?_)
      refine pw_lstore (lv' := [(6, .long v6_26), (4, .long v4_12), (0, .long a), (2, .long z)]) h d_X8_common_26 _ hml (by decide) rfl ?_
      have ey0 : v6_26 = absL z := by rw [e6_26]; first | exact (absL_ge (lc_ge.mp c_17)).symm | exact (absL_lt (Int.not_le.mp (fun q => c_17 (lc_ge.mpr q)))).symm
      refine PW.perm [2, 3, 1, 0] rfl ?_
      exact cut_28 (v6_26.toInt.natAbs + 1) v4_12 v6_26 (by omega) (by rw [ex0, ey0]; rfl)
  · skip
    refine pw_lload_n h 0 d_X8_common_6 rfl ?_
    refine pw_lneg h d_X8_common_7 ?_
    refine pw_goto 12 h d_X8_common_8 (by decide) ?_
    refine pw_nmL (fun v4_12 e4_12 => ?_)
    refine pw_lstore (lv' := [(4, .long v4_12), (0, .long a), (2, .long z)]) h d_X8_common_12 _ hml (by decide) rfl ?_
    have ex0 : v4_12 = absL a := by rw [e4_12]; first | exact (absL_ge (lc_ge.mp c_3)).symm | exact (absL_lt (Int.not_le.mp (fun q => c_3 (lc_ge.mpr q)))).symm
    refine pw_lload_n h 2 d_X8_common_14 rfl ?_
    refine pw_lconst (x := 0) h d_X8_common_15 (by decide) ?_
    refine pw_lcmp h d_X8_common_16 ?_
    refine pw_if_ge 25 h d_X8_common_17 (by decide) (fun c_17 => ?_) (fun c_17 => ?_)
    · skip
      refine pw_lload_n h 2 d_X8_common_25 rfl ?_
      refine pw_nmL (fun v6_26 e6_26 => ?_)
      refine pw_lstore (lv' := [(6, .long v6_26), (4, .long v4_12), (0, .long a), (2, .long z)]) h d_X8_common_26 _ hml (by decide) rfl ?_
      have ey0 : v6_26 = absL z := by rw [e6_26]; first | exact (absL_ge (lc_ge.mp c_17)).symm | exact (absL_lt (Int.not_le.mp (fun q => c_17 (lc_ge.mpr q)))).symm
      refine PW.perm [2, 3, 1, 0] rfl ?_
      exact cut_28 (v6_26.toInt.natAbs + 1) v4_12 v6_26 (by omega) (by rw [ex0, ey0]; rfl)
    · skip
      refine pw_lload_n h 2 d_X8_common_20 rfl ?_
      refine pw_lneg h d_X8_common_21 ?_
      refine pw_goto 26 h d_X8_common_22 (by decide) ?_
      refine pw_nmL (fun v6_26 e6_26 => ?_)
      refine pw_lstore (lv' := [(6, .long v6_26), (4, .long v4_12), (0, .long a), (2, .long z)]) h d_X8_common_26 _ hml (by decide) rfl ?_
      have ey0 : v6_26 = absL z := by rw [e6_26]; first | exact (absL_ge (lc_ge.mp c_17)).symm | exact (absL_lt (Int.not_le.mp (fun q => c_17 (lc_ge.mpr q)))).symm
      refine PW.perm [2, 3, 1, 0] rfl ?_
      exact cut_28 (v6_26.toInt.natAbs + 1) v4_12 v6_26 (by omega) (by rw [ex0, ey0]; rfl)

set_option maxHeartbeats 4000000 in
set_option maxRecDepth 100000 in
theorem c_X8_makes {sh : Sh} {I : IM} {L : LM} {R : RM} {m : Nat} (hM : ModF sh R m) (a b : Int64) (hne : ¬ gcdL a b = 0) : PMet M_X8_makes [.ref m, .long a, .long b] sh I L R (pRet none sh I (mkL L m a b) R) := by
  refine PMet.of mf_X8_makes (Nat.le_of_ble_eq_true rfl) ?_
  intro X h hr hml
  have hml : (xc X).maxLocals = 7 := hml
  have h : PXok X RX8 cX8_makes 2 0 0 := h
  have hr : PXr X none "makes" _ 0 0 := hr
  have hM0 := hM
  obtain ⟨f0, f1, f2, f3, f4, f5, f6, f7, f8, f9, f10, f11, f12, f13, f14, f15, f16, f17, f18, f19, f20, f21, f22, f23, f24, f25, f26, f27, g1, g2, g3, g4, g5, g6, g7, g8, g9, g10, g11, g12, g13, g14, g15, g16, g17, g18, g19, g20, g21, g22, g23, g24, g25, g26, g27⟩ := hM
  have hby := mkBy_ne hne
  show PW X 0 [(0, .ref m), (1, .long a), (3, .long b)] [] sh I L R 0 0
  refine pw_lload_n h 1 d_X8_makes_0 rfl ?_
  refine pw_lload_n h 2 d_X8_makes_1 rfl ?_
  refine pw_callS (As := [.long _, .long _]) h d_X8_makes_2 mf_X8_common st_yX8_common ml_RX8_198 ⟨by decide, by decide, by decide⟩ rfl rfl (Nat.le_of_ble_eq_true rfl) c_X8_common ?_
  refine PKk.ret ?_
  refine pw_nmL (fun v5_5 e5_5 => ?_)
  refine pw_lstore (lv' := [(5, .long v5_5), (0, .ref m), (1, .long a), (3, .long b)]) h d_X8_makes_5 _ hml (by decide) rfl ?_
  refine pw_lload_n h 3 d_X8_makes_7 rfl ?_
  refine pw_lconst (x := 0) h d_X8_makes_8 (by decide) ?_
  refine pw_lcmp h d_X8_makes_9 ?_
  refine pw_if_ge 19 h d_X8_makes_10 (by decide) (fun c_10 => ?_) (fun c_10 => ?_)
  · skip
    refine pw_lload h 0 d_X8_makes_19 rfl ?_
    refine pw_nmL (fun v5_21 e5_21 => ?_)
    refine pw_lstore (lv' := [(5, .long v5_21), (0, .ref m), (1, .long a), (3, .long b)]) h d_X8_makes_21 _ hml (by decide) rfl ?_
    have ey : v5_21 = mkBy a b := by rw [e5_21]; unfold mkBy; rw [← e5_5]; rw [lz_ge] at c_10; first | rw [if_neg (show ¬ b.toInt < 0 by omega)] | rw [if_pos (show b.toInt < 0 by omega)]
    subst ey
    refine pw_aload_n h 1 d_X8_makes_23 rfl ?_
    refine pw_lload_n h 2 d_X8_makes_24 rfl ?_
    refine pw_lload h 0 d_X8_makes_25 rfl ?_
    refine pw_ldiv h d_X8_makes_27 hby ?_
    refine pw_putL 8 h d_X8_makes_28 fd_RX8_202 (by assumption) rfl rfl rfl rfl ?_
    refine pw_aload_n h 1 d_X8_makes_31 rfl ?_
    refine pw_lload_n h 3 d_X8_makes_32 rfl ?_
    refine pw_lload h 0 d_X8_makes_33 rfl ?_
    refine pw_ldiv h d_X8_makes_35 hby ?_
    refine pw_putL 8 h d_X8_makes_36 fd_RX8_44 (by assumption) rfl rfl rfl rfl ?_
    refine pw_vret h hr d_X8_makes_39 (by decide) (by decide) ?_
    exact ⟨rfl, rfl, rfl, rfl, rfl⟩
  · skip
    refine pw_lload h 0 d_X8_makes_13 rfl ?_
    refine pw_lneg h d_X8_makes_15 ?_
    refine pw_goto 21 h d_X8_makes_16 (by decide) ?_
    refine pw_nmL (fun v5_21 e5_21 => ?_)
    refine pw_lstore (lv' := [(5, .long v5_21), (0, .ref m), (1, .long a), (3, .long b)]) h d_X8_makes_21 _ hml (by decide) rfl ?_
    have ey : v5_21 = mkBy a b := by rw [e5_21]; unfold mkBy; rw [← e5_5]; rw [lz_ge] at c_10; first | rw [if_neg (show ¬ b.toInt < 0 by omega)] | rw [if_pos (show b.toInt < 0 by omega)]
    subst ey
    refine pw_aload_n h 1 d_X8_makes_23 rfl ?_
    refine pw_lload_n h 2 d_X8_makes_24 rfl ?_
    refine pw_lload h 0 d_X8_makes_25 rfl ?_
    refine pw_ldiv h d_X8_makes_27 hby ?_
    refine pw_putL 8 h d_X8_makes_28 fd_RX8_202 (by assumption) rfl rfl rfl rfl ?_
    refine pw_aload_n h 1 d_X8_makes_31 rfl ?_
    refine pw_lload_n h 3 d_X8_makes_32 rfl ?_
    refine pw_lload h 0 d_X8_makes_33 rfl ?_
    refine pw_ldiv h d_X8_makes_35 hby ?_
    refine pw_putL 8 h d_X8_makes_36 fd_RX8_44 (by assumption) rfl rfl rfl rfl ?_
    refine pw_vret h hr d_X8_makes_39 (by decide) (by decide) ?_
    exact ⟨rfl, rfl, rfl, rfl, rfl⟩

set_option maxHeartbeats 4000000 in
set_option maxRecDepth 100000 in
theorem c_X8_adds {sh : Sh} {I : IM} {L : LM} {R : RM} {m : Nat} (hM : ModF sh R m) (a b : Int64) (hne : ¬ gcdL (L m 18) b = 0) (hne2 : ¬ gcdL (adN L m a b) (adD L m b) = 0) : PMet M_X8_adds [.ref m, .long a, .long b] sh I L R (pRet none sh I (adL L m a b) R) := by
  refine PMet.of mf_X8_adds (Nat.le_of_ble_eq_true rfl) ?_
  intro X h hr hml
  have hml : (xc X).maxLocals = 7 := hml
  have h : PXok X RX8 cX8_adds 3 0 0 := h
  have hr : PXr X none "adds" _ 0 0 := hr
  have hM0 := hM
  obtain ⟨f0, f1, f2, f3, f4, f5, f6, f7, f8, f9, f10, f11, f12, f13, f14, f15, f16, f17, f18, f19, f20, f21, f22, f23, f24, f25, f26, f27, g1, g2, g3, g4, g5, g6, g7, g8, g9, g10, g11, g12, g13, g14, g15, g16, g17, g18, g19, g20, g21, g22, g23, g24, g25, g26, g27⟩ := hM
  show PW X 0 [(0, .ref m), (1, .long a), (3, .long b)] [] sh I L R 0 0
  refine pw_aload_n h 0 d_X8_adds_0 rfl ?_
  refine pw_getL 8 h d_X8_adds_1 fd_RX8_44 (by assumption) rfl ?_
  refine pw_lload_n h 2 d_X8_adds_4 rfl ?_
  refine pw_callS (As := [.long _, .long _]) h d_X8_adds_5 mf_X8_common st_yX8_common ml_RX8_198 ⟨by decide, by decide, by decide⟩ rfl rfl (Nat.le_of_ble_eq_true rfl) c_X8_common ?_
  refine PKk.ret ?_
  refine pw_nmL (fun v5_8 e5_8 => ?_)
  refine pw_lstore (lv' := [(5, .long v5_8), (0, .ref m), (1, .long a), (3, .long b)]) h d_X8_adds_8 _ hml (by decide) rfl ?_
  subst e5_8
  refine pw_aload_n h 1 d_X8_adds_10 rfl ?_
  refine pw_aload_n h 1 d_X8_adds_11 rfl ?_
  refine pw_getL 8 h d_X8_adds_12 fd_RX8_202 (by assumption) rfl ?_
  refine pw_lload_n h 3 d_X8_adds_15 rfl ?_
  refine pw_lload h 0 d_X8_adds_16 rfl ?_
  refine pw_ldiv h d_X8_adds_18 hne ?_
  refine pw_lmul h d_X8_adds_19 ?_
  refine pw_lload_n h 2 d_X8_adds_20 rfl ?_
  refine pw_aload_n h 1 d_X8_adds_21 rfl ?_
  refine pw_getL 8 h d_X8_adds_22 fd_RX8_44 (by assumption) rfl ?_
  refine pw_lload h 0 d_X8_adds_25 rfl ?_
  refine pw_ldiv h d_X8_adds_27 hne ?_
  refine pw_lmul h d_X8_adds_28 ?_
  refine pw_ladd h d_X8_adds_29 ?_
  refine pw_aload_n h 1 d_X8_adds_30 rfl ?_
  refine pw_getL 8 h d_X8_adds_31 fd_RX8_44 (by assumption) rfl ?_
  refine pw_lload h 0 d_X8_adds_34 rfl ?_
  refine pw_ldiv h d_X8_adds_36 hne ?_
  refine pw_lload_n h 3 d_X8_adds_37 rfl ?_
  refine pw_lmul h d_X8_adds_38 ?_
  refine pw_callV (As := [.long _, .long _]) h d_X8_adds_39 mf_X8_makes mi_X8_makes ml_RX8_205 ⟨by decide, by decide, by decide⟩ (by assumption) rfl rfl (Nat.le_of_ble_eq_true rfl) trivial (c_X8_makes hM0 (adN L m a b) (adD L m b) hne2) ?_
  refine PKk.ret ?_
  refine pw_vret h hr d_X8_adds_42 (by decide) (by decide) ?_
  exact ⟨rfl, rfl, rfl, rfl, rfl⟩

set_option maxHeartbeats 4000000 in
set_option maxRecDepth 100000 in
theorem c_X8_cube {v : Int64} {q : Int32} {sh : Sh} {I : IM} {L : LM} {R : RM} : PMet M_X8_cube [.long v, .int q] sh I L R (pRet (some (.long (cubM v q))) sh I L R) := by
  refine PMet.of mf_X8_cube (Nat.le_of_ble_eq_true rfl) ?_
  intro X h hr hml
  have hml : (xc X).maxLocals = 3 := hml
  have h : PXok X RX8 cX8_cube 1 0 0 := h
  have hr : PXr X (some .long) "cube" _ 0 0 := hr
  show PW X 0 [(0, .long v), (2, .int q)] [] sh I L R 0 0
  refine pw_lload_n h 0 d_X8_cube_0 rfl ?_
  refine pw_lconst (x := 0) h d_X8_cube_1 (by decide) ?_
  refine pw_lcmp h d_X8_cube_2 ?_
  refine pw_if_gt 10 h d_X8_cube_3 (by decide) (fun c_3 => ?_) (fun c_3 => ?_)
  · skip
    refine pw_iload_n h 1 d_X8_cube_10 rfl ?_
    refine pw_if_eq 24 h d_X8_cube_11 (by decide) (fun c_11 => ?_) (fun c_11 => ?_)
    · skip
      refine pw_lload_n h 0 d_X8_cube_24 rfl ?_
      refine pw_lload_n h 0 d_X8_cube_25 rfl ?_
      refine pw_lmul h d_X8_cube_26 ?_
      refine pw_lload_n h 0 d_X8_cube_27 rfl ?_
      refine pw_lmul h d_X8_cube_28 ?_
      refine pw_lret h hr d_X8_cube_29 (by decide) (by decide) ?_
      unfold cubM
      rw [lz_gt] at c_3
      first | exact ⟨by rw [if_pos c_3, if_pos c_11], rfl, rfl, rfl, rfl⟩ | exact ⟨by rw [if_pos c_3, if_neg c_11], rfl, rfl, rfl, rfl⟩ | exact ⟨by rw [if_neg c_3], rfl, rfl, rfl, rfl⟩
    · skip
      refine pw_ldc2 h d_X8_cube_14 ck_RX8_133 ?_
      refine pw_lload_n h 0 d_X8_cube_17 rfl ?_
      refine pw_lmul h d_X8_cube_18 ?_
      refine pw_lload_n h 0 d_X8_cube_19 rfl ?_
      refine pw_lmul h d_X8_cube_20 ?_
      refine pw_goto 29 h d_X8_cube_21 (by decide) ?_
      refine pw_lret h hr d_X8_cube_29 (by decide) (by decide) ?_
      unfold cubM
      rw [lz_gt] at c_3
      first | exact ⟨by rw [if_pos c_3, if_pos c_11], rfl, rfl, rfl, rfl⟩ | exact ⟨by rw [if_pos c_3, if_neg c_11], rfl, rfl, rfl, rfl⟩ | exact ⟨by rw [if_neg c_3], rfl, rfl, rfl, rfl⟩
  · skip
    refine pw_lconst (x := 0) h d_X8_cube_6 (by decide) ?_
    refine pw_goto 29 h d_X8_cube_7 (by decide) ?_
    refine pw_lret h hr d_X8_cube_29 (by decide) (by decide) ?_
    unfold cubM
    rw [lz_gt] at c_3
    first | exact ⟨by rw [if_pos c_3, if_pos c_11], rfl, rfl, rfl, rfl⟩ | exact ⟨by rw [if_pos c_3, if_neg c_11], rfl, rfl, rfl, rfl⟩ | exact ⟨by rw [if_neg c_3], rfl, rfl, rfl, rfl⟩

set_option maxHeartbeats 4000000 in
set_option maxRecDepth 100000 in
theorem c_X1_takeAway {sh : Sh} {I : IM} {L : LM} {R : RM} {b c : Nat} (f0 : sh[b]? = some (.inl 1)) (f1 : sh[c]? = some (.inl 1)) : PMet M_X1_takeAway [.ref b, .ref c] sh I L R (pRet none sh I (tkL L b c) R) := by
  refine PMet.of mf_X1_takeAway (Nat.le_of_ble_eq_true rfl) ?_
  intro X h hr hml
  have hml : (xc X).maxLocals = 6 := hml
  have h : PXok X RX1 cX1_takeAway 3 0 0 := h
  have hr : PXr X none "takeAway" _ 0 0 := hr
  show PW X 0 [(0, .ref b), (1, .ref c)] [] sh I L R 0 0
  refine pw_aload_n h 0 d_X1_takeAway_0 rfl ?_
  refine pw_getL 1 h d_X1_takeAway_1 fd_RX1_13 (by assumption) rfl ?_
  refine pw_aload_n h 1 d_X1_takeAway_4 rfl ?_
  refine pw_getL 1 h d_X1_takeAway_5 fd_RX1_13 (by assumption) rfl ?_
  refine pw_callSN (As := [.long _, .long _]) h d_X1_takeAway_8 mf_X7_commonDivisor st_yX7_commonDivisor nw_RX1_16 ⟨by decide, by decide, by decide⟩ rfl rfl (Nat.le_of_ble_eq_true rfl) c_X7_commonDivisor ?_
  refine PKk.ret ?_
  refine pw_nmL (fun v2_11 e2_11 => ?_)
  refine pw_lstore_n (lv' := [(2, .long v2_11), (0, .ref b), (1, .ref c)]) h d_X1_takeAway_11 rfl _ hml (by decide) rfl ?_
  refine pw_aload_n h 2 d_X1_takeAway_12 rfl ?_
  refine pw_getL 1 h d_X1_takeAway_13 fd_RX1_13 (by assumption) rfl ?_
  refine pw_lload_n h 0 d_X1_takeAway_16 rfl ?_
  refine pw_callSN (As := [.long _, .long _]) h d_X1_takeAway_17 mf_X7_cut st_yX7_cut nw_RX1_22 ⟨by decide, by decide, by decide⟩ rfl rfl (Nat.le_of_ble_eq_true rfl) c_X7_cut ?_
  refine PKk.ret ?_
  refine pw_nmL (fun v4_20 e4_20 => ?_)
  refine pw_lstore (lv' := [(4, .long v4_20), (2, .long v2_11), (0, .ref b), (1, .ref c)]) h d_X1_takeAway_20 _ hml (by decide) rfl ?_
  refine pw_aload_n h 2 d_X1_takeAway_22 rfl ?_
  refine pw_aload_n h 2 d_X1_takeAway_23 rfl ?_
  refine pw_getL 1 h d_X1_takeAway_24 fd_RX1_7 (by assumption) rfl ?_
  refine pw_lload h 0 d_X1_takeAway_27 rfl ?_
  refine pw_lmul h d_X1_takeAway_29 ?_
  refine pw_aload_n h 3 d_X1_takeAway_30 rfl ?_
  refine pw_getL 1 h d_X1_takeAway_31 fd_RX1_7 (by assumption) rfl ?_
  refine pw_aload_n h 2 d_X1_takeAway_34 rfl ?_
  refine pw_getL 1 h d_X1_takeAway_35 fd_RX1_13 (by assumption) rfl ?_
  refine pw_lload_n h 1 d_X1_takeAway_38 rfl ?_
  refine pw_callSN (As := [.long _, .long _]) h d_X1_takeAway_39 mf_X7_cut st_yX7_cut nw_RX1_22 ⟨by decide, by decide, by decide⟩ rfl rfl (Nat.le_of_ble_eq_true rfl) c_X7_cut ?_
  refine PKk.ret ?_
  refine pw_lmul h d_X1_takeAway_42 ?_
  refine pw_lsub h d_X1_takeAway_43 ?_
  refine pw_aload_n h 2 d_X1_takeAway_44 rfl ?_
  refine pw_getL 1 h d_X1_takeAway_45 fd_RX1_13 (by assumption) rfl ?_
  refine pw_lload h 0 d_X1_takeAway_48 rfl ?_
  refine pw_lmul h d_X1_takeAway_50 ?_
  refine pw_callV (As := [.long _, .long _]) h d_X1_takeAway_51 mf_X1_become mi_X1_become ml_RX1_25 ⟨by decide, by decide, by decide⟩ (by assumption) rfl rfl (Nat.le_of_ble_eq_true rfl) trivial (c_X1_become f0 _ _) ?_
  refine PKk.ret ?_
  refine pw_vret h hr d_X1_takeAway_54 (by decide) (by decide) ?_
  exact ⟨rfl, rfl, rfl, by rw [e4_20, e2_11]; rfl, rfl⟩
